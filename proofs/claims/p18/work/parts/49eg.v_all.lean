/-! ===== values: all, 4 ===== -/
theorem vr_160_0 : zrx 160 0 = some (.aload_n 0, 0, 0) := by decide +kernel
theorem vr_160_1 : zrx 160 1 = some (.iconst 0, 0, 0) := by decide +kernel
theorem vr_160_2 : zrx 160 2 = some (.putfield 55, 18, 0) := by decide +kernel
theorem vr_160_5 : zrx 160 5 = some (.iload_n 1, 0, 0) := by decide +kernel
theorem vr_160_6 : zrx 160 6 = some (.bipush 32, 0, 0) := by decide +kernel
theorem vr_160_8 : zrx 160 8 = some (.if_icmp .lt 9, 0, 0) := by decide +kernel
theorem vr_160_11 : zrx 160 11 = some (.iload_n 1, 0, 0) := by decide +kernel
theorem vr_160_12 : zrx 160 12 = some (.bipush 126, 0, 0) := by decide +kernel
theorem vr_160_14 : zrx 160 14 = some (.if_icmp .le 9, 0, 0) := by decide +kernel
theorem vr_160_17 : zrx 160 17 = some (.aload_n 0, 0, 0) := by decide +kernel
theorem vr_160_18 : zrx 160 18 = some (.iconst 1, 0, 0) := by decide +kernel
theorem vr_160_19 : zrx 160 19 = some (.invokevirtual 212, 131, 190) := by decide +kernel
theorem vr_160_22 : zrx 160 22 = some (.ireturn, 0, 0) := by decide +kernel
theorem vr_160_23 : zrx 160 23 = some (.aload_n 0, 0, 0) := by decide +kernel
theorem vr_160_24 : zrx 160 24 = some (.getfield 36, 18, 10) := by decide +kernel
theorem vr_160_27 : zrx 160 27 = some (.invokevirtual 151, 264, 10) := by decide +kernel
theorem vr_160_30 : zrx 160 30 = some (.bipush 60, 0, 0) := by decide +kernel
theorem vr_160_32 : zrx 160 32 = some (.if_icmp .ne 9, 0, 0) := by decide +kernel
theorem vr_160_35 : zrx 160 35 = some (.aload_n 0, 0, 0) := by decide +kernel
theorem vr_160_36 : zrx 160 36 = some (.iconst 2, 0, 0) := by decide +kernel
theorem vr_160_37 : zrx 160 37 = some (.invokevirtual 212, 131, 190) := by decide +kernel
theorem vr_160_40 : zrx 160 40 = some (.ireturn, 0, 0) := by decide +kernel
theorem vr_160_41 : zrx 160 41 = some (.aload_n 0, 0, 0) := by decide +kernel
theorem vr_160_42 : zrx 160 42 = some (.new 238, 1, 0) := by decide +kernel
theorem vr_160_45 : zrx 160 45 = some (.dup, 0, 0) := by decide +kernel
theorem vr_160_46 : zrx 160 46 = some (.invokespecial 240, 273, 20) := by decide +kernel
theorem vr_160_49 : zrx 160 49 = some (.aload_n 0, 0, 0) := by decide +kernel
theorem vr_160_50 : zrx 160 50 = some (.getfield 36, 18, 10) := by decide +kernel
theorem vr_160_53 : zrx 160 53 = some (.invokevirtual 241, 274, 20) := by decide +kernel
theorem vr_160_56 : zrx 160 56 = some (.iload_n 1, 0, 0) := by decide +kernel
theorem vr_160_57 : zrx 160 57 = some (.i2c, 0, 0) := by decide +kernel
theorem vr_160_58 : zrx 160 58 = some (.invokevirtual 245, 275, 20) := by decide +kernel
theorem vr_160_61 : zrx 160 61 = some (.invokevirtual 248, 277, 20) := by decide +kernel
theorem vr_160_64 : zrx 160 64 = some (.putfield 36, 18, 10) := by decide +kernel
theorem vr_160_67 : zrx 160 67 = some (.aload_n 0, 0, 0) := by decide +kernel
theorem vr_160_68 : zrx 160 68 = some (.getfield 36, 18, 10) := by decide +kernel
theorem vr_160_71 : zrx 160 71 = some (.invokevirtual 151, 264, 10) := by decide +kernel
theorem vr_160_74 : zrx 160 74 = some (.ireturn, 0, 0) := by decide +kernel
theorem vr_244_0 : zrx 244 0 = some (.aload_n 0, 0, 0) := by decide +kernel
theorem vr_244_1 : zrx 244 1 = some (.invokespecial 3, 0, 6) := by decide +kernel
theorem vr_244_4 : zrx 244 4 = some (.getstatic 18, 1, 0) := by decide +kernel
theorem vr_244_7 : zrx 244 7 = some (.ifCond .eq 18, 0, 0) := by decide +kernel
theorem vr_244_10 : zrx 244 10 = some (.aload_n 0, 0, 0) := by decide +kernel
theorem vr_244_11 : zrx 244 11 = some (.iload_n 1, 0, 0) := by decide +kernel
theorem vr_244_12 : zrx 244 12 = some (.newarray .byte, 101, 0) := by decide +kernel
theorem vr_244_14 : zrx 244 14 = some (.putfield 15, 1, 0) := by decide +kernel
theorem vr_244_17 : zrx 244 17 = some (.aload_n 0, 0, 0) := by decide +kernel
theorem vr_244_18 : zrx 244 18 = some (.iconst 0, 0, 0) := by decide +kernel
theorem vr_244_19 : zrx 244 19 = some (.putfield 22, 1, 1) := by decide +kernel
theorem vr_244_22 : zrx 244 22 = some (.goto 16, 0, 0) := by decide +kernel
theorem vr_244_38 : zrx 244 38 = some (.return_, 0, 0) := by decide +kernel
theorem vr_245_0 : zrx 245 0 = some (.aload_n 0, 0, 0) := by decide +kernel
theorem vr_245_1 : zrx 245 1 = some (.getfield 79, 1, 3) := by decide +kernel
theorem vr_245_4 : zrx 245 4 = some (.ireturn, 0, 0) := by decide +kernel
theorem vr_246_0 : zrx 246 0 = some (.aload_n 0, 0, 0) := by decide +kernel
theorem vr_246_1 : zrx 246 1 = some (.getfield 15, 1, 0) := by decide +kernel
theorem vr_246_4 : zrx 246 4 = some (.arraylength, 0, 0) := by decide +kernel
theorem vr_246_5 : zrx 246 5 = some (.aload_n 0, 0, 0) := by decide +kernel
theorem vr_246_6 : zrx 246 6 = some (.getfield 22, 1, 1) := by decide +kernel
theorem vr_246_9 : zrx 246 9 = some (.ishr, 0, 0) := by decide +kernel
theorem vr_246_10 : zrx 246 10 = some (.istore_n 2, 0, 0) := by decide +kernel
theorem vr_246_11 : zrx 246 11 = some (.iload_n 1, 0, 0) := by decide +kernel
theorem vr_246_12 : zrx 246 12 = some (.iload_n 2, 0, 0) := by decide +kernel
theorem vr_246_13 : zrx 246 13 = some (.isub, 0, 0) := by decide +kernel
theorem vr_246_14 : zrx 246 14 = some (.ifCond .le 24, 0, 0) := by decide +kernel
theorem vr_246_17 : zrx 246 17 = some (.aload_n 0, 0, 0) := by decide +kernel
theorem vr_246_18 : zrx 246 18 = some (.aload_n 0, 0, 0) := by decide +kernel
theorem vr_246_19 : zrx 246 19 = some (.getfield 15, 1, 0) := by decide +kernel
theorem vr_246_22 : zrx 246 22 = some (.aload_n 0, 0, 0) := by decide +kernel
theorem vr_246_23 : zrx 246 23 = some (.iload_n 1, 0, 0) := by decide +kernel
theorem vr_246_24 : zrx 246 24 = some (.invokevirtual 104, 247, 20) := by decide +kernel
theorem vr_246_27 : zrx 246 27 = some (.aload_n 0, 0, 0) := by decide +kernel
theorem vr_246_28 : zrx 246 28 = some (.getfield 22, 1, 1) := by decide +kernel
theorem vr_246_31 : zrx 246 31 = some (.ishl, 0, 0) := by decide +kernel
theorem vr_246_32 : zrx 246 32 = some (.invokestatic 108, 312, 0) := by decide +kernel
theorem vr_246_35 : zrx 246 35 = some (.putfield 15, 1, 0) := by decide +kernel
theorem vr_246_38 : zrx 246 38 = some (.return_, 0, 0) := by decide +kernel
theorem vr_247_0 : zrx 247 0 = some (.aload_n 0, 0, 0) := by decide +kernel
theorem vr_247_1 : zrx 247 1 = some (.getfield 15, 1, 0) := by decide +kernel
theorem vr_247_4 : zrx 247 4 = some (.arraylength, 0, 0) := by decide +kernel
theorem vr_247_5 : zrx 247 5 = some (.istore_n 2, 0, 0) := by decide +kernel
theorem vr_247_6 : zrx 247 6 = some (.iload_n 1, 0, 0) := by decide +kernel
theorem vr_247_7 : zrx 247 7 = some (.aload_n 0, 0, 0) := by decide +kernel
theorem vr_247_8 : zrx 247 8 = some (.getfield 22, 1, 1) := by decide +kernel
theorem vr_247_11 : zrx 247 11 = some (.ishl, 0, 0) := by decide +kernel
theorem vr_247_12 : zrx 247 12 = some (.istore_n 3, 0, 0) := by decide +kernel
theorem vr_247_13 : zrx 247 13 = some (.iload_n 3, 0, 0) := by decide +kernel
theorem vr_247_14 : zrx 247 14 = some (.iload_n 2, 0, 0) := by decide +kernel
theorem vr_247_15 : zrx 247 15 = some (.isub, 0, 0) := by decide +kernel
theorem vr_247_16 : zrx 247 16 = some (.istore 4, 0, 0) := by decide +kernel
theorem vr_247_18 : zrx 247 18 = some (.iload_n 2, 0, 0) := by decide +kernel
theorem vr_247_19 : zrx 247 19 = some (.iload 4, 0, 0) := by decide +kernel
theorem vr_247_21 : zrx 247 21 = some (.iload_n 2, 0, 0) := by decide +kernel
theorem vr_247_22 : zrx 247 22 = some (.iconst 2, 0, 0) := by decide +kernel
theorem vr_247_23 : zrx 247 23 = some (.aload_n 0, 0, 0) := by decide +kernel
theorem vr_247_24 : zrx 247 24 = some (.getfield 22, 1, 1) := by decide +kernel
theorem vr_247_27 : zrx 247 27 = some (.ishl, 0, 0) := by decide +kernel
theorem vr_247_28 : zrx 247 28 = some (.iadd, 0, 0) := by decide +kernel
theorem vr_247_29 : zrx 247 29 = some (.invokestatic 114, 317, 0) := by decide +kernel
theorem vr_247_32 : zrx 247 32 = some (.istore 5, 0, 0) := by decide +kernel
theorem vr_247_34 : zrx 247 34 = some (.iload 5, 0, 0) := by decide +kernel
theorem vr_247_36 : zrx 247 36 = some (.ldc 39, 2147483647, 0) := by decide +kernel
theorem vr_247_38 : zrx 247 38 = some (.if_icmp .ne 13, 0, 0) := by decide +kernel
theorem vr_247_51 : zrx 247 51 = some (.iload 5, 0, 0) := by decide +kernel
theorem vr_247_53 : zrx 247 53 = some (.aload_n 0, 0, 0) := by decide +kernel
theorem vr_247_54 : zrx 247 54 = some (.getfield 22, 1, 1) := by decide +kernel
theorem vr_247_57 : zrx 247 57 = some (.ishr, 0, 0) := by decide +kernel
theorem vr_247_58 : zrx 247 58 = some (.ireturn, 0, 0) := by decide +kernel
theorem vr_249_0 : zrx 249 0 = some (.aload_n 1, 0, 0) := by decide +kernel
theorem vr_249_1 : zrx 249 1 = some (.ifnonnull 8, 0, 5000) := by decide +kernel
theorem vr_249_9 : zrx 249 9 = some (.aload_n 1, 0, 0) := by decide +kernel
theorem vr_249_10 : zrx 249 10 = some (.invokevirtual 32, 264, 10) := by decide +kernel
theorem vr_249_13 : zrx 249 13 = some (.istore_n 2, 0, 0) := by decide +kernel
theorem vr_249_14 : zrx 249 14 = some (.aload_n 0, 0, 0) := by decide +kernel
theorem vr_249_15 : zrx 249 15 = some (.aload_n 0, 0, 0) := by decide +kernel
theorem vr_249_16 : zrx 249 16 = some (.getfield 79, 1, 3) := by decide +kernel
theorem vr_249_19 : zrx 249 19 = some (.iload_n 2, 0, 0) := by decide +kernel
theorem vr_249_20 : zrx 249 20 = some (.iadd, 0, 0) := by decide +kernel
theorem vr_249_21 : zrx 249 21 = some (.invokevirtual 100, 246, 20) := by decide +kernel
theorem vr_249_24 : zrx 249 24 = some (.aload_n 0, 0, 0) := by decide +kernel
theorem vr_249_25 : zrx 249 25 = some (.aload_n 0, 0, 0) := by decide +kernel
theorem vr_249_26 : zrx 249 26 = some (.getfield 79, 1, 3) := by decide +kernel
theorem vr_249_29 : zrx 249 29 = some (.aload_n 1, 0, 0) := by decide +kernel
theorem vr_249_30 : zrx 249 30 = some (.invokevirtual 208, 256, 20) := by decide +kernel
theorem vr_249_33 : zrx 249 33 = some (.aload_n 0, 0, 0) := by decide +kernel
theorem vr_249_34 : zrx 249 34 = some (.dup, 0, 0) := by decide +kernel
theorem vr_249_35 : zrx 249 35 = some (.getfield 79, 1, 3) := by decide +kernel
theorem vr_249_38 : zrx 249 38 = some (.iload_n 2, 0, 0) := by decide +kernel
theorem vr_249_39 : zrx 249 39 = some (.iadd, 0, 0) := by decide +kernel
theorem vr_249_40 : zrx 249 40 = some (.putfield 79, 1, 3) := by decide +kernel
theorem vr_249_43 : zrx 249 43 = some (.aload_n 0, 0, 0) := by decide +kernel
theorem vr_249_44 : zrx 249 44 = some (.areturn, 0, 0) := by decide +kernel
theorem vr_251_0 : zrx 251 0 = some (.aload_n 0, 0, 0) := by decide +kernel
theorem vr_251_1 : zrx 251 1 = some (.aload_n 0, 0, 0) := by decide +kernel
theorem vr_251_2 : zrx 251 2 = some (.getfield 79, 1, 3) := by decide +kernel
theorem vr_251_5 : zrx 251 5 = some (.iconst 1, 0, 0) := by decide +kernel
theorem vr_251_6 : zrx 251 6 = some (.iadd, 0, 0) := by decide +kernel
theorem vr_251_7 : zrx 251 7 = some (.invokevirtual 100, 246, 20) := by decide +kernel
theorem vr_251_10 : zrx 251 10 = some (.aload_n 0, 0, 0) := by decide +kernel
theorem vr_251_11 : zrx 251 11 = some (.invokevirtual 83, 254, 20) := by decide +kernel
theorem vr_251_14 : zrx 251 14 = some (.ifCond .eq 31, 0, 0) := by decide +kernel
theorem vr_251_17 : zrx 251 17 = some (.iload_n 1, 0, 0) := by decide +kernel
theorem vr_251_18 : zrx 251 18 = some (.invokestatic 191, 280, 0) := by decide +kernel
theorem vr_251_21 : zrx 251 21 = some (.ifCond .eq 24, 0, 0) := by decide +kernel
theorem vr_251_24 : zrx 251 24 = some (.aload_n 0, 0, 0) := by decide +kernel
theorem vr_251_25 : zrx 251 25 = some (.getfield 15, 1, 0) := by decide +kernel
theorem vr_251_28 : zrx 251 28 = some (.aload_n 0, 0, 0) := by decide +kernel
theorem vr_251_29 : zrx 251 29 = some (.dup, 0, 0) := by decide +kernel
theorem vr_251_30 : zrx 251 30 = some (.getfield 79, 1, 3) := by decide +kernel
theorem vr_251_33 : zrx 251 33 = some (.dup_x1, 0, 0) := by decide +kernel
theorem vr_251_34 : zrx 251 34 = some (.iconst 1, 0, 0) := by decide +kernel
theorem vr_251_35 : zrx 251 35 = some (.iadd, 0, 0) := by decide +kernel
theorem vr_251_36 : zrx 251 36 = some (.putfield 79, 1, 3) := by decide +kernel
theorem vr_251_39 : zrx 251 39 = some (.iload_n 1, 0, 0) := by decide +kernel
theorem vr_251_40 : zrx 251 40 = some (.i2b, 0, 0) := by decide +kernel
theorem vr_251_41 : zrx 251 41 = some (.bastore, 0, 0) := by decide +kernel
theorem vr_251_42 : zrx 251 42 = some (.goto 33, 0, 0) := by decide +kernel
theorem vr_251_75 : zrx 251 75 = some (.aload_n 0, 0, 0) := by decide +kernel
theorem vr_251_76 : zrx 251 76 = some (.areturn, 0, 0) := by decide +kernel
theorem vr_253_0 : zrx 253 0 = some (.aload_n 0, 0, 0) := by decide +kernel
theorem vr_253_1 : zrx 253 1 = some (.getfield 15, 1, 0) := by decide +kernel
theorem vr_253_4 : zrx 253 4 = some (.areturn, 0, 0) := by decide +kernel
theorem vr_254_0 : zrx 254 0 = some (.getstatic 18, 1, 0) := by decide +kernel
theorem vr_254_3 : zrx 254 3 = some (.ifCond .eq 14, 0, 0) := by decide +kernel
theorem vr_254_6 : zrx 254 6 = some (.aload_n 0, 0, 0) := by decide +kernel
theorem vr_254_7 : zrx 254 7 = some (.getfield 22, 1, 1) := by decide +kernel
theorem vr_254_10 : zrx 254 10 = some (.ifCond .ne 7, 0, 0) := by decide +kernel
theorem vr_254_13 : zrx 254 13 = some (.iconst 1, 0, 0) := by decide +kernel
theorem vr_254_14 : zrx 254 14 = some (.goto 4, 0, 0) := by decide +kernel
theorem vr_254_17 : zrx 254 17 = some (.iconst 0, 0, 0) := by decide +kernel
theorem vr_254_18 : zrx 254 18 = some (.ireturn, 0, 0) := by decide +kernel
theorem vr_255_0 : zrx 255 0 = some (.getstatic 18, 1, 0) := by decide +kernel
theorem vr_255_3 : zrx 255 3 = some (.ifCond .eq 18, 0, 0) := by decide +kernel
theorem vr_255_6 : zrx 255 6 = some (.aload_n 0, 0, 0) := by decide +kernel
theorem vr_255_7 : zrx 255 7 = some (.getfield 22, 1, 1) := by decide +kernel
theorem vr_255_10 : zrx 255 10 = some (.aload_n 1, 0, 0) := by decide +kernel
theorem vr_255_11 : zrx 255 11 = some (.invokevirtual 40, 268, 10) := by decide +kernel
theorem vr_255_14 : zrx 255 14 = some (.if_icmp .eq 7, 0, 0) := by decide +kernel
theorem vr_255_21 : zrx 255 21 = some (.return_, 0, 0) := by decide +kernel
theorem vr_256_0 : zrx 256 0 = some (.aload_n 0, 0, 0) := by decide +kernel
theorem vr_256_1 : zrx 256 1 = some (.aload_n 2, 0, 0) := by decide +kernel
theorem vr_256_2 : zrx 256 2 = some (.invokevirtual 397, 255, 20) := by decide +kernel
theorem vr_256_5 : zrx 256 5 = some (.aload_n 2, 0, 0) := by decide +kernel
theorem vr_256_6 : zrx 256 6 = some (.aload_n 0, 0, 0) := by decide +kernel
theorem vr_256_7 : zrx 256 7 = some (.getfield 15, 1, 0) := by decide +kernel
theorem vr_256_10 : zrx 256 10 = some (.iload_n 1, 0, 0) := by decide +kernel
theorem vr_256_11 : zrx 256 11 = some (.aload_n 0, 0, 0) := by decide +kernel
theorem vr_256_12 : zrx 256 12 = some (.getfield 22, 1, 1) := by decide +kernel
theorem vr_256_15 : zrx 256 15 = some (.invokevirtual 399, 266, 10) := by decide +kernel
theorem vr_256_18 : zrx 256 18 = some (.return_, 0, 0) := by decide +kernel
theorem vr_263_0 : zrx 263 0 = some (.aload_n 0, 0, 0) := by decide +kernel
theorem vr_263_1 : zrx 263 1 = some (.aload_n 1, 0, 0) := by decide +kernel
theorem vr_263_2 : zrx 263 2 = some (.aconst_null, 0, 0) := by decide +kernel
theorem vr_263_3 : zrx 263 3 = some (.invokespecial 489, 267, 10) := by decide +kernel
theorem vr_263_6 : zrx 263 6 = some (.return_, 0, 0) := by decide +kernel
theorem vr_266_0 : zrx 266 0 = some (.aload_n 0, 0, 0) := by decide +kernel
theorem vr_266_1 : zrx 266 1 = some (.invokevirtual 335, 268, 10) := by decide +kernel
theorem vr_266_4 : zrx 266 4 = some (.iload_n 3, 0, 0) := by decide +kernel
theorem vr_266_5 : zrx 266 5 = some (.if_icmp .ne 23, 0, 0) := by decide +kernel
theorem vr_266_8 : zrx 266 8 = some (.aload_n 0, 0, 0) := by decide +kernel
theorem vr_266_9 : zrx 266 9 = some (.getfield 9, 0, 0) := by decide +kernel
theorem vr_266_12 : zrx 266 12 = some (.iconst 0, 0, 0) := by decide +kernel
theorem vr_266_13 : zrx 266 13 = some (.aload_n 1, 0, 0) := by decide +kernel
theorem vr_266_14 : zrx 266 14 = some (.iload_n 2, 0, 0) := by decide +kernel
theorem vr_266_15 : zrx 266 15 = some (.iload_n 3, 0, 0) := by decide +kernel
theorem vr_266_16 : zrx 266 16 = some (.ishl, 0, 0) := by decide +kernel
theorem vr_266_17 : zrx 266 17 = some (.aload_n 0, 0, 0) := by decide +kernel
theorem vr_266_18 : zrx 266 18 = some (.getfield 9, 0, 0) := by decide +kernel
theorem vr_266_21 : zrx 266 21 = some (.arraylength, 0, 0) := by decide +kernel
theorem vr_266_22 : zrx 266 22 = some (.invokestatic 212, 0, 5000) := by decide +kernel
theorem vr_266_25 : zrx 266 25 = some (.goto 18, 0, 0) := by decide +kernel
theorem vr_266_43 : zrx 266 43 = some (.return_, 0, 0) := by decide +kernel
theorem vr_267_0 : zrx 267 0 = some (.aload_n 0, 0, 0) := by decide +kernel
theorem vr_267_1 : zrx 267 1 = some (.invokespecial 1, 0, 6) := by decide +kernel
theorem vr_267_4 : zrx 267 4 = some (.aload_n 1, 0, 0) := by decide +kernel
theorem vr_267_5 : zrx 267 5 = some (.invokevirtual 552, 253, 20) := by decide +kernel
theorem vr_267_8 : zrx 267 8 = some (.astore_n 3, 0, 0) := by decide +kernel
theorem vr_267_9 : zrx 267 9 = some (.aload_n 1, 0, 0) := by decide +kernel
theorem vr_267_10 : zrx 267 10 = some (.invokevirtual 549, 278, 20) := by decide +kernel
theorem vr_267_13 : zrx 267 13 = some (.istore 4, 0, 0) := by decide +kernel
theorem vr_267_15 : zrx 267 15 = some (.aload_n 1, 0, 0) := by decide +kernel
theorem vr_267_16 : zrx 267 16 = some (.invokevirtual 1047, 254, 20) := by decide +kernel
theorem vr_267_19 : zrx 267 19 = some (.ifCond .eq 22, 0, 0) := by decide +kernel
theorem vr_267_22 : zrx 267 22 = some (.aload_n 0, 0, 0) := by decide +kernel
theorem vr_267_23 : zrx 267 23 = some (.iconst 0, 0, 0) := by decide +kernel
theorem vr_267_24 : zrx 267 24 = some (.putfield 15, 0, 1) := by decide +kernel
theorem vr_267_27 : zrx 267 27 = some (.aload_n 0, 0, 0) := by decide +kernel
theorem vr_267_28 : zrx 267 28 = some (.aload_n 3, 0, 0) := by decide +kernel
theorem vr_267_29 : zrx 267 29 = some (.iconst 0, 0, 0) := by decide +kernel
theorem vr_267_30 : zrx 267 30 = some (.iload 4, 0, 0) := by decide +kernel
theorem vr_267_32 : zrx 267 32 = some (.invokestatic 54, 314, 0) := by decide +kernel
theorem vr_267_35 : zrx 267 35 = some (.putfield 9, 0, 0) := by decide +kernel
theorem vr_267_38 : zrx 267 38 = some (.goto 59, 0, 0) := by decide +kernel
theorem vr_267_97 : zrx 267 97 = some (.return_, 0, 0) := by decide +kernel
theorem vr_273_0 : zrx 273 0 = some (.aload_n 0, 0, 0) := by decide +kernel
theorem vr_273_1 : zrx 273 1 = some (.bipush 16, 0, 0) := by decide +kernel
theorem vr_273_3 : zrx 273 3 = some (.invokespecial 1, 244, 20) := by decide +kernel
theorem vr_273_6 : zrx 273 6 = some (.return_, 0, 0) := by decide +kernel
theorem vr_274_0 : zrx 274 0 = some (.aload_n 0, 0, 0) := by decide +kernel
theorem vr_274_1 : zrx 274 1 = some (.aload_n 1, 0, 0) := by decide +kernel
theorem vr_274_2 : zrx 274 2 = some (.invokespecial 29, 249, 20) := by decide +kernel
theorem vr_274_5 : zrx 274 5 = some (.pop, 0, 0) := by decide +kernel
theorem vr_274_6 : zrx 274 6 = some (.aload_n 0, 0, 0) := by decide +kernel
theorem vr_274_7 : zrx 274 7 = some (.areturn, 0, 0) := by decide +kernel
theorem vr_275_0 : zrx 275 0 = some (.aload_n 0, 0, 0) := by decide +kernel
theorem vr_275_1 : zrx 275 1 = some (.iload_n 1, 0, 0) := by decide +kernel
theorem vr_275_2 : zrx 275 2 = some (.invokespecial 50, 251, 20) := by decide +kernel
theorem vr_275_5 : zrx 275 5 = some (.pop, 0, 0) := by decide +kernel
theorem vr_275_6 : zrx 275 6 = some (.aload_n 0, 0, 0) := by decide +kernel
theorem vr_275_7 : zrx 275 7 = some (.areturn, 0, 0) := by decide +kernel
theorem vr_277_0 : zrx 277 0 = some (.new 18, 0, 0) := by decide +kernel
theorem vr_277_3 : zrx 277 3 = some (.dup, 0, 0) := by decide +kernel
theorem vr_277_4 : zrx 277 4 = some (.aload_n 0, 0, 0) := by decide +kernel
theorem vr_277_5 : zrx 277 5 = some (.invokespecial 137, 263, 10) := by decide +kernel
theorem vr_277_8 : zrx 277 8 = some (.areturn, 0, 0) := by decide +kernel
theorem vr_278_0 : zrx 278 0 = some (.aload_n 0, 0, 0) := by decide +kernel
theorem vr_278_1 : zrx 278 1 = some (.invokespecial 343, 245, 20) := by decide +kernel
theorem vr_278_4 : zrx 278 4 = some (.ireturn, 0, 0) := by decide +kernel
theorem vr_280_0 : zrx 280 0 = some (.iload_n 0, 0, 0) := by decide +kernel
theorem vr_280_1 : zrx 280 1 = some (.sipush 255, 0, 0) := by decide +kernel
theorem vr_280_4 : zrx 280 4 = some (.if_icmp .gt 7, 0, 0) := by decide +kernel
theorem vr_280_7 : zrx 280 7 = some (.iconst 1, 0, 0) := by decide +kernel
theorem vr_280_8 : zrx 280 8 = some (.goto 4, 0, 0) := by decide +kernel
theorem vr_280_11 : zrx 280 11 = some (.iconst 0, 0, 0) := by decide +kernel
theorem vr_280_12 : zrx 280 12 = some (.ireturn, 0, 0) := by decide +kernel
theorem vr_312_0 : zrx 312 0 = some (.iload_n 1, 0, 0) := by decide +kernel
theorem vr_312_1 : zrx 312 1 = some (.aload_n 0, 0, 0) := by decide +kernel
theorem vr_312_2 : zrx 312 2 = some (.arraylength, 0, 0) := by decide +kernel
theorem vr_312_3 : zrx 312 3 = some (.if_icmp .ne 11, 0, 0) := by decide +kernel
theorem vr_312_14 : zrx 312 14 = some (.iload_n 1, 0, 0) := by decide +kernel
theorem vr_312_15 : zrx 312 15 = some (.newarray .byte, 101, 0) := by decide +kernel
theorem vr_312_17 : zrx 312 17 = some (.astore_n 2, 0, 0) := by decide +kernel
theorem vr_312_18 : zrx 312 18 = some (.aload_n 0, 0, 0) := by decide +kernel
theorem vr_312_19 : zrx 312 19 = some (.iconst 0, 0, 0) := by decide +kernel
theorem vr_312_20 : zrx 312 20 = some (.aload_n 2, 0, 0) := by decide +kernel
theorem vr_312_21 : zrx 312 21 = some (.iconst 0, 0, 0) := by decide +kernel
theorem vr_312_22 : zrx 312 22 = some (.aload_n 0, 0, 0) := by decide +kernel
theorem vr_312_23 : zrx 312 23 = some (.arraylength, 0, 0) := by decide +kernel
theorem vr_312_24 : zrx 312 24 = some (.iload_n 1, 0, 0) := by decide +kernel
theorem vr_312_25 : zrx 312 25 = some (.invokestatic 304, 262, 0) := by decide +kernel
theorem vr_312_28 : zrx 312 28 = some (.invokestatic 150, 0, 5000) := by decide +kernel
theorem vr_312_31 : zrx 312 31 = some (.aload_n 2, 0, 0) := by decide +kernel
theorem vr_312_32 : zrx 312 32 = some (.areturn, 0, 0) := by decide +kernel
theorem vr_313_0 : zrx 313 0 = some (.iload_n 1, 0, 0) := by decide +kernel
theorem vr_313_1 : zrx 313 1 = some (.iload_n 0, 0, 0) := by decide +kernel
theorem vr_313_2 : zrx 313 2 = some (.if_icmp .ge 35, 0, 0) := by decide +kernel
theorem vr_313_37 : zrx 313 37 = some (.return_, 0, 0) := by decide +kernel
theorem vr_314_0 : zrx 314 0 = some (.iload_n 1, 0, 0) := by decide +kernel
theorem vr_314_1 : zrx 314 1 = some (.ifCond .ne 9, 0, 0) := by decide +kernel
theorem vr_314_4 : zrx 314 4 = some (.iload_n 2, 0, 0) := by decide +kernel
theorem vr_314_5 : zrx 314 5 = some (.aload_n 0, 0, 0) := by decide +kernel
theorem vr_314_6 : zrx 314 6 = some (.arraylength, 0, 0) := by decide +kernel
theorem vr_314_7 : zrx 314 7 = some (.if_icmp .eq 10, 0, 0) := by decide +kernel
theorem vr_314_10 : zrx 314 10 = some (.aload_n 0, 0, 0) := by decide +kernel
theorem vr_314_11 : zrx 314 11 = some (.iload_n 1, 0, 0) := by decide +kernel
theorem vr_314_12 : zrx 314 12 = some (.iload_n 2, 0, 0) := by decide +kernel
theorem vr_314_13 : zrx 314 13 = some (.invokestatic 339, 315, 0) := by decide +kernel
theorem vr_314_16 : zrx 314 16 = some (.areturn, 0, 0) := by decide +kernel
theorem vr_314_17 : zrx 314 17 = some (.aload_n 0, 0, 0) := by decide +kernel
theorem vr_314_18 : zrx 314 18 = some (.invokevirtual 310, 1, 5000) := by decide +kernel
theorem vr_314_21 : zrx 314 21 = some (.checkcast 311, 101, 5000) := by decide +kernel
theorem vr_314_24 : zrx 314 24 = some (.areturn, 0, 0) := by decide +kernel
theorem vr_315_0 : zrx 315 0 = some (.iload_n 1, 0, 0) := by decide +kernel
theorem vr_315_1 : zrx 315 1 = some (.iload_n 2, 0, 0) := by decide +kernel
theorem vr_315_2 : zrx 315 2 = some (.invokestatic 343, 313, 0) := by decide +kernel
theorem vr_315_5 : zrx 315 5 = some (.iload_n 2, 0, 0) := by decide +kernel
theorem vr_315_6 : zrx 315 6 = some (.iload_n 1, 0, 0) := by decide +kernel
theorem vr_315_7 : zrx 315 7 = some (.isub, 0, 0) := by decide +kernel
theorem vr_315_8 : zrx 315 8 = some (.istore_n 3, 0, 0) := by decide +kernel
theorem vr_315_9 : zrx 315 9 = some (.iload_n 3, 0, 0) := by decide +kernel
theorem vr_315_10 : zrx 315 10 = some (.newarray .byte, 101, 0) := by decide +kernel
theorem vr_315_12 : zrx 315 12 = some (.astore 4, 0, 0) := by decide +kernel
theorem vr_315_14 : zrx 315 14 = some (.aload_n 0, 0, 0) := by decide +kernel
theorem vr_315_15 : zrx 315 15 = some (.iload_n 1, 0, 0) := by decide +kernel
theorem vr_315_16 : zrx 315 16 = some (.aload 4, 0, 0) := by decide +kernel
theorem vr_315_18 : zrx 315 18 = some (.iconst 0, 0, 0) := by decide +kernel
theorem vr_315_19 : zrx 315 19 = some (.aload_n 0, 0, 0) := by decide +kernel
theorem vr_315_20 : zrx 315 20 = some (.arraylength, 0, 0) := by decide +kernel
theorem vr_315_21 : zrx 315 21 = some (.iload_n 1, 0, 0) := by decide +kernel
theorem vr_315_22 : zrx 315 22 = some (.isub, 0, 0) := by decide +kernel
theorem vr_315_23 : zrx 315 23 = some (.iload_n 3, 0, 0) := by decide +kernel
theorem vr_315_24 : zrx 315 24 = some (.invokestatic 304, 262, 0) := by decide +kernel
theorem vr_315_27 : zrx 315 27 = some (.invokestatic 150, 0, 5000) := by decide +kernel
theorem vr_315_30 : zrx 315 30 = some (.aload 4, 0, 0) := by decide +kernel
theorem vr_315_32 : zrx 315 32 = some (.areturn, 0, 0) := by decide +kernel
theorem C_sbi (nf : Nat) (B : Nat) (h : List zC) (u : Nat) (hB : B < h.length) (h3 : gF h B 3 = some (.int 0)) : zL zrx zi nf 244 0 [(0, .ref B), (1, .int 16)] [] h u (fun o h2 _ => o = .inl none ∧ KP B h h2 ∧ BX B h2 B h.length 16 0 (fun _ => 0)) := by
  refine zSaload (m := 1) (k := 0) vr_244_0 rfl rfl rfl ?_
  refine zSobj vr_244_1 rfl ?_
  refine zScstV (v := .int (Int32.ofNat 1)) vr_244_4 rfl rfl ?_
  refine zSb1 (f := fun x => decide (x = 0)) (off := 18) (t := 25) vr_244_7 rfl rfl rfl (fun x1882 e1882 q1882 => ?_) (fun x1882 e1882 q1882 => ?_)
  · cases e1882
    have c1882 := of_decide_eq_true q1882
    exact absurd c1882 (by decide)
  · cases e1882
    have c1882 := ndc q1882
    refine zSaload (m := 1) (k := 0) vr_244_10 rfl rfl rfl ?_
    refine zSiload (m := 1) (k := 1) vr_244_11 rfl rfl rfl (fun x1884 e1884 => ?_)
    cases e1884
    refine zLnarr vr_244_12 rfl (fun m1885 k1885 u1885 e1885 n1885 g1885 => ?_)
    cases e1885
    refine zLput vr_244_14 rfl (fun p1886 k1886 e1886 t1886 g1886 => ?_)
    cases e1886
    refine zSaload (m := 1) (k := 0) vr_244_17 rfl rfl rfl ?_
    refine zSp0 (pc' := 19) (st' := .int (0) :: _) vr_244_18 rfl rfl ?_
    refine zLput vr_244_19 rfl (fun p1889 k1889 e1889 t1889 g1889 => ?_)
    cases e1889
    refine zSgo (t := 38) vr_244_22 rfl rfl ?_
    refine zSvoid vr_244_38 rfl ?_
    have l := g1885.len
    have a := (KP.new g1885 (Nat.le_of_lt hB)).trans ((KP.put g1886 (Nat.le_refl B)).trans (KP.put g1889 (Nat.le_refl B)))
    have e3 : gF k1889 B 3 = some (.int 0) := by
      rw [g1889.2.1, if_neg (by omega), g1886.2.1, if_neg (by omega), g1885.ext.fld hB]
      exact h3
    refine ⟨rfl, a, ?_, ?_, e3, ?_, ?_, by omega, by omega, fun i hi => absurd hi (Nat.not_lt_zero i), Nat.le_refl _, Nat.le_of_lt hB, by omega⟩
    · rw [g1889.2.1, if_neg (by omega), g1886.2.1, if_pos ⟨rfl, rfl⟩]
    · rw [g1889.2.1, if_pos ⟨rfl, rfl⟩]
    · rw [g1889.2.2.2, g1886.2.2.2, g1885.cn.1, List.length_replicate]
      rfl
    · rw [g1889.2.2.1, g1886.2.2.1, g1885.cn.2]
theorem C_sbn (nf : Nat) (B : Nat) (h : List zC) (u : Nat) (hB : B < h.length) (h3 : gF h B 3 = some (.int 0)) : zL zrx zi nf 273 0 [(0, .ref B)] [] h u (fun o h2 _ => o = .inl none ∧ KP B h h2 ∧ BX B h2 B h.length 16 0 (fun _ => 0)) := by
  refine zSaload (m := 1) (k := 0) vr_273_0 rfl rfl rfl ?_
  refine zSp0 (pc' := 3) (st' := .int (16) :: _) vr_273_1 rfl rfl ?_
  refine zScall vr_273_3 rfl rfl rfl (fun m1894 _ => C_sbi _ _ _ _ hB h3) (fun v1894 h1894 u1894 q1894 => ?_) (fun E1894 h1894 u1894 q1894 => ?_)
  · obtain ⟨z1894, w1, w2⟩ := q1894
    cases z1894
    show zL zrx zi _ 273 6 [(0, _)] [] _ _ _
    refine zSvoid vr_273_6 rfl ?_
    exact ⟨rfl, w1, w2⟩
  · obtain ⟨z, -⟩ := q1894
    cases z
theorem C_nl (nf : Nat) (a g p : Int32) (h : List zC) (u : Nat) (s1 : 0 < (a + mxI g p).toInt) (s2 : (a + mxI g p).toInt < 1000) : zL zrx zi nf 317 0 [(0, .int a), (1, .int g), (2, .int p)] [] h u (fun o h2 _ => h2 = h ∧ o = .inl (some (.int (a + mxI g p)))) := by
  refine zSiload (m := 1) (k := 0) vr_317_0 rfl rfl rfl (fun x1896 e1896 => ?_)
  cases e1896
  refine zSiload (m := 1) (k := 1) vr_317_1 rfl rfl rfl (fun x1897 e1897 => ?_)
  cases e1897
  refine zSiload (m := 1) (k := 2) vr_317_2 rfl rfl rfl (fun x1898 e1898 => ?_)
  cases e1898
  refine zScall vr_317_3 rfl rfl rfl (fun m1899 _ => C_mxI _ _ _ _ _) (fun v1899 h1899 u1899 q1899 => ?_) (fun E1899 h1899 u1899 q1899 => ?_)
  · obtain ⟨eh1899, z1899⟩ := q1899
    subst eh1899
    cases z1899
    show zL zrx zi _ 317 6 [(0, _), (1, _), (2, _)] [_, _] _ _ _
    refine zS2 (f := fun x y => .int (x + y)) vr_317_6 rfl rfl (fun x1900 y1900 e1900 f1900 => ?_)
    cases e1900
    cases f1900
    refine zSistore (m := 1) (k := 3) vr_317_7 rfl rfl (fun x1901 e1901 => ?_)
    cases e1901
    show zL zrx zi _ 317 8 [(3, _), (0, _), (1, _), (2, _)] [] _ _ _
    refine zSp0 (pc' := 9) (st' := .int (0) :: _) vr_317_8 rfl rfl ?_
    refine zSiload (m := 1) (k := 3) vr_317_9 rfl rfl rfl (fun x1903 e1903 => ?_)
    cases e1903
    refine zSb2 (f := fun x y => decide (y ≤ x)) (off := 11) (t := 21) vr_317_10 rfl rfl rfl (fun x1904 y1904 e1904 f1904 q1904 => ?_) (fun x1904 y1904 e1904 f1904 q1904 => ?_)
    · cases e1904
      cases f1904
      have c1904 := of_decide_eq_true q1904
      exfalso
      have z0 : (0 : Int32).toInt = 0 := rfl
      first
        | (have y := c1904
           rw [i32_le] at y
           omega)
        | (have y := c1839
           rw [i32_lt] at y
           have zm : (Int32.ofNat 2147483639).toInt = 2147483639 := rfl
           omega)
    · cases e1904
      cases f1904
      have c1904 := ndc q1904
      refine zSiload (m := 1) (k := 3) vr_317_13 rfl rfl rfl (fun x1905 e1905 => ?_)
      cases e1905
      refine zScstV (v := .int (Int32.ofNat 2147483639)) vr_317_14 rfl rfl ?_
      refine zSb2 (f := fun x y => decide (y < x)) (off := 5) (t := 21) vr_317_16 rfl rfl rfl (fun x1907 y1907 e1907 f1907 q1907 => ?_) (fun x1907 y1907 e1907 f1907 q1907 => ?_)
      · cases e1907
        cases f1907
        have c1907 := of_decide_eq_true q1907
        exfalso
        have z0 : (0 : Int32).toInt = 0 := rfl
        first
          | (have y := c1904
             rw [i32_le] at y
             omega)
          | (have y := c1907
             rw [i32_lt] at y
             have zm : (Int32.ofNat 2147483639).toInt = 2147483639 := rfl
             omega)
      · cases e1907
        cases f1907
        have c1907 := ndc q1907
        refine zSiload (m := 1) (k := 3) vr_317_19 rfl rfl rfl (fun x1908 e1908 => ?_)
        cases e1908
        refine zLiret vr_317_20 rfl (fun x1909 e1909 => ?_)
        cases e1909
        exact ⟨rfl, rfl⟩
  · obtain ⟨-, z⟩ := q1899
    cases z
theorem C_ncap (nf : Nat) (mn : Nat) (h : List zC) (u : Nat) {m B W cap n : Nat} {f : Nat → Int32} (bx : BX m h B W cap n f) (hm : mn ≤ 61) (hlt : cap < mn) : zL zrx zi nf 247 0 [(0, .ref B), (1, .int (Int32.ofNat mn))] [] h u (fun o h2 _ => h2 = h ∧ ∃ nc : Nat, o = .inl (some (.int (Int32.ofNat nc))) ∧ mn ≤ nc ∧ nc ≤ 200) := by
  refine zSaload (m := 1) (k := 0) vr_247_0 rfl rfl rfl ?_
  refine zLget vr_247_1 rfl (fun p1911 w1911 e1911 t1911 g1911 => ?_)
  cases e1911
  first | (rw [bx.1] at g1911; cases g1911) | (rw [bx.2.1] at g1911; cases g1911) | skip
  refine zLlen vr_247_4 rfl (fun p1912 m1912 e1912 g1912 => ?_)
  cases e1912
  have en := g1912
  rw [bx.2.2.2.1] at en
  cases en
  refine zSistore (m := 1) (k := 2) vr_247_5 rfl rfl (fun x1913 e1913 => ?_)
  cases e1913
  show zL zrx zi _ 247 6 [(2, _), (0, _), (1, _)] [] _ _ _
  refine zSiload (m := 1) (k := 1) vr_247_6 rfl rfl rfl (fun x1914 e1914 => ?_)
  cases e1914
  refine zSaload (m := 1) (k := 0) vr_247_7 rfl rfl rfl ?_
  refine zLget vr_247_8 rfl (fun p1916 w1916 e1916 t1916 g1916 => ?_)
  cases e1916
  first | (rw [bx.1] at g1916; cases g1916) | (rw [bx.2.1] at g1916; cases g1916) | skip
  refine zS2 (f := fun x y => .int (x <<< (y &&& 31))) vr_247_11 rfl rfl (fun x1917 y1917 e1917 f1917 => ?_)
  cases e1917
  cases f1917
  rw [(sh0' mn (by omega)).2]
  refine zSistore (m := 1) (k := 3) vr_247_12 rfl rfl (fun x1918 e1918 => ?_)
  cases e1918
  show zL zrx zi _ 247 13 [(3, _), (2, _), (0, _), (1, _)] [] _ _ _
  refine zSiload (m := 1) (k := 3) vr_247_13 rfl rfl rfl (fun x1919 e1919 => ?_)
  cases e1919
  refine zSiload (m := 1) (k := 2) vr_247_14 rfl rfl rfl (fun x1920 e1920 => ?_)
  cases e1920
  refine zS2 (f := fun x y => .int (x - y)) vr_247_15 rfl rfl (fun x1921 y1921 e1921 f1921 => ?_)
  cases e1921
  cases f1921
  refine zSistore (m := 2) (k := 4) vr_247_16 rfl rfl (fun x1922 e1922 => ?_)
  cases e1922
  show zL zrx zi _ 247 18 [(4, _), (3, _), (2, _), (0, _), (1, _)] [] _ _ _
  refine zSiload (m := 1) (k := 2) vr_247_18 rfl rfl rfl (fun x1923 e1923 => ?_)
  cases e1923
  refine zSiload (m := 2) (k := 4) vr_247_19 rfl rfl rfl (fun x1924 e1924 => ?_)
  cases e1924
  refine zSiload (m := 1) (k := 2) vr_247_21 rfl rfl rfl (fun x1925 e1925 => ?_)
  cases e1925
  refine zSp0 (pc' := 23) (st' := .int (2) :: _) vr_247_22 rfl rfl ?_
  refine zSaload (m := 1) (k := 0) vr_247_23 rfl rfl rfl ?_
  refine zLget vr_247_24 rfl (fun p1928 w1928 e1928 t1928 g1928 => ?_)
  cases e1928
  first | (rw [bx.1] at g1928; cases g1928) | (rw [bx.2.1] at g1928; cases g1928) | skip
  refine zS2 (f := fun x y => .int (x <<< (y &&& 31))) vr_247_27 rfl rfl (fun x1929 y1929 e1929 f1929 => ?_)
  cases e1929
  cases f1929
  refine zS2 (f := fun x y => .int (x + y)) vr_247_28 rfl rfl (fun x1930 y1930 e1930 f1930 => ?_)
  cases e1930
  cases f1930
  have tab := ncap_tab cap (by omega) mn (by omega) hlt
  have nc : cap + max (mn - cap) (cap + 2) < 1000 := by omega
  have s1 : 0 < (Int32.ofNat cap + mxI (Int32.ofNat mn - Int32.ofNat cap) (Int32.ofNat cap + ((2 : Int32) <<< ((0 : Int32) &&& 31)))).toInt := by
    rw [tab, (toNat_ofNat (by omega)).2]
    omega
  have s2 : (Int32.ofNat cap + mxI (Int32.ofNat mn - Int32.ofNat cap) (Int32.ofNat cap + ((2 : Int32) <<< ((0 : Int32) &&& 31)))).toInt < 1000 := by
    rw [tab, (toNat_ofNat (by omega)).2]
    omega
  refine zScall vr_247_29 rfl rfl rfl (fun m1931 _ => C_nl _ _ _ _ _ _ s1 s2) (fun v1931 h1931 u1931 q1931 => ?_) (fun E1931 h1931 u1931 q1931 => ?_)
  · obtain ⟨eh1931, z1931⟩ := q1931
    replace eh1931 := eh1931.symm
    subst eh1931
    cases z1931
    show zL zrx zi _ 247 32 [(4, _), (3, _), (2, _), (0, _), (1, _)] [_] _ _ _
    rw [tab]
    refine zSistore (m := 2) (k := 5) vr_247_32 rfl rfl (fun x1932 e1932 => ?_)
    cases e1932
    show zL zrx zi _ 247 34 [(5, _), (4, _), (3, _), (2, _), (0, _), (1, _)] [] _ _ _
    refine zSiload (m := 2) (k := 5) vr_247_34 rfl rfl rfl (fun x1933 e1933 => ?_)
    cases e1933
    refine zScstV (v := .int (Int32.ofNat 2147483647)) vr_247_36 rfl rfl ?_
    refine zSb2 (f := fun x y => decide (¬ x = y)) (off := 13) (t := 51) vr_247_38 rfl rfl rfl (fun x1935 y1935 e1935 f1935 q1935 => ?_) (fun x1935 y1935 e1935 f1935 q1935 => ?_)
    · cases e1935
      cases f1935
      have c1935 := of_decide_eq_true q1935
      refine zSiload (m := 2) (k := 5) vr_247_51 rfl rfl rfl (fun x1936 e1936 => ?_)
      cases e1936
      refine zSaload (m := 1) (k := 0) vr_247_53 rfl rfl rfl ?_
      refine zLget vr_247_54 rfl (fun p1938 w1938 e1938 t1938 g1938 => ?_)
      cases e1938
      first | (rw [bx.1] at g1938; cases g1938) | (rw [bx.2.1] at g1938; cases g1938) | skip
      refine zS2 (f := fun x y => .int (x >>> (y &&& 31))) vr_247_57 rfl rfl (fun x1939 y1939 e1939 f1939 => ?_)
      cases e1939
      cases f1939
      refine zLiret vr_247_58 rfl (fun x1940 e1940 => ?_)
      cases e1940
      refine ⟨rfl, cap + max (mn - cap) (cap + 2), ?_, by omega, by omega⟩
      rw [(sh0' _ (by omega)).1]
    · cases e1935
      cases f1935
      have c1935 := ndc q1935
      exact zLnone (by decide +kernel)
  · obtain ⟨-, z⟩ := q1931
    cases z
theorem C_cp9 (nf : Nat) (W r : Nat) (h : List zC) (u : Nat) {cap : Nat} (hN : gN h W = some cap) (hlt : cap < r) (hr : r ≤ 1000) : zL zrx zi nf 312 0 [(0, .ref W), (1, .int (Int32.ofNat r))] [] h u (fun o h2 _ => o = .inl (some (.ref h.length)) ∧ KP h.length h h2 ∧ gN h2 h.length = some r ∧ gT h2 h.length = some 101 ∧ ∀ i, i < cap → gF h2 h.length i = gF h W i) := by
  refine zSiload (m := 1) (k := 1) vr_312_0 rfl rfl rfl (fun x1941 e1941 => ?_)
  cases e1941
  refine zSaload (m := 1) (k := 0) vr_312_1 rfl rfl rfl ?_
  refine zLlen vr_312_2 rfl (fun p1943 m1943 e1943 g1943 => ?_)
  cases e1943
  have en := g1943
  rw [hN] at en
  cases en
  refine zSb2 (f := fun x y => decide (¬ x = y)) (off := 11) (t := 14) vr_312_3 rfl rfl rfl (fun x1944 y1944 e1944 f1944 q1944 => ?_) (fun x1944 y1944 e1944 f1944 q1944 => ?_)
  · cases e1944
    cases f1944
    have c1944 := of_decide_eq_true q1944
    refine zSiload (m := 1) (k := 1) vr_312_14 rfl rfl rfl (fun x1945 e1945 => ?_)
    cases e1945
    refine zLnarr vr_312_15 rfl (fun m1946 k1946 u1946 e1946 n1946 g1946 => ?_)
    cases e1946
    refine zSastore (m := 1) (k := 2) vr_312_17 rfl rfl ?_
    show zL zrx zi _ 312 18 [(2, _), (0, _), (1, _)] [] _ _ _
    refine zSaload (m := 1) (k := 0) vr_312_18 rfl rfl rfl ?_
    refine zSp0 (pc' := 20) (st' := .int (0) :: _) vr_312_19 rfl rfl ?_
    refine zSaload (m := 1) (k := 2) vr_312_20 rfl rfl rfl ?_
    refine zSp0 (pc' := 22) (st' := .int (0) :: _) vr_312_21 rfl rfl ?_
    refine zSaload (m := 1) (k := 0) vr_312_22 rfl rfl rfl ?_
    refine zLlen vr_312_23 rfl (fun p1953 m1953 e1953 g1953 => ?_)
    cases e1953
    have en2 := g1953
    rw [(g1946.ext.T (gN_lt hN)).2, hN] at en2
    cases en2
    refine zSiload (m := 1) (k := 1) vr_312_24 rfl rfl rfl (fun x1954 e1954 => ?_)
    cases e1954
    refine zScall vr_312_25 rfl rfl rfl (fun m1955 _ => C_mnI _ _ _ _ _) (fun v1955 h1955 u1955 q1955 => ?_) (fun E1955 h1955 u1955 q1955 => ?_)
    · obtain ⟨eh1955, z1955⟩ := q1955
      subst eh1955
      cases z1955
      show zL zrx zi _ 312 28 [(2, _), (0, _), (1, _)] [_, _, _, _, _] _ _ _
      refine zLarc vr_312_28 rfl (fun p1956 d1956 x1956 y1956 m1956 k1956 e1956 f1956 i1956 j1956 l1956 n1956 o1956 s1956 c1956 => ?_)
      cases e1956
      cases f1956
      cases i1956
      cases j1956
      cases l1956
      refine zSaload (m := 1) (k := 2) vr_312_31 rfl rfl rfl ?_
      refine zSaret vr_312_32 rfl ?_
      have lW := gN_lt hN
      have z0 : (0 : Int32).toNatClampNeg = 0 := rfl
      have hm : mnI (Int32.ofNat cap) (Int32.ofNat r) = Int32.ofNat cap := by
        unfold mnI
        rw [if_neg (fun z => by rw [(on_lt (a := r) (b := cap) (by omega) (by omega)).1] at z; omega)]
      have gc := c1956
      rw [hm, z0, (toNat_ofNat (show cap < 2147483648 by omega)).1] at gc
      refine ⟨rfl, (KP.new g1946 (Nat.le_refl _)).trans (KP.cpy gc (Nat.le_refl _)), ?_, ?_, fun i hi => ?_⟩
      · rw [gc.2.2.2, g1946.cn.1, List.length_replicate, (toNat_ofNat (show r < 2147483648 by omega)).1]
      · rw [gc.2.2.1, g1946.cn.2]
      · rw [gc.2.1, if_pos ⟨rfl, Nat.zero_le _, by omega⟩, Nat.zero_add, Nat.sub_zero]
        exact g1946.ext.fld lW i
    · obtain ⟨-, z⟩ := q1955
      cases z
  · cases e1944
    cases f1944
    have c1944 := ndc q1944
    exact absurd ((on_eq (by omega) (by omega)).mp (Decidable.not_not.mp c1944)) (by omega)
theorem C_ens (nf : Nat) (mn : Nat) (h : List zC) (u : Nat) {m B W cap n : Nat} {f : Nat → Int32} (bx : BX m h B W cap n f) (hm : mn ≤ 61) : zL zrx zi nf 246 0 [(0, .ref B), (1, .int (Int32.ofNat mn))] [] h u (fun o h2 _ => o = .inl none ∧ KP m h h2 ∧ ∃ W2 cap2 : Nat, BX m h2 B W2 cap2 n f ∧ mn ≤ cap2) := by
  refine zSaload (m := 1) (k := 0) vr_246_0 rfl rfl rfl ?_
  refine zLget vr_246_1 rfl (fun p1960 w1960 e1960 t1960 g1960 => ?_)
  cases e1960
  first | (rw [bx.1] at g1960; cases g1960) | (rw [bx.2.1] at g1960; cases g1960) | skip
  refine zLlen vr_246_4 rfl (fun p1961 m1961 e1961 g1961 => ?_)
  cases e1961
  have en := g1961
  rw [bx.2.2.2.1] at en
  cases en
  refine zSaload (m := 1) (k := 0) vr_246_5 rfl rfl rfl ?_
  refine zLget vr_246_6 rfl (fun p1963 w1963 e1963 t1963 g1963 => ?_)
  cases e1963
  first | (rw [bx.1] at g1963; cases g1963) | (rw [bx.2.1] at g1963; cases g1963) | skip
  refine zS2 (f := fun x y => .int (x >>> (y &&& 31))) vr_246_9 rfl rfl (fun x1964 y1964 e1964 f1964 => ?_)
  cases e1964
  cases f1964
  rw [(sh0' cap (by have := bx.2.2.2.2.2.2.1; omega)).1]
  refine zSistore (m := 1) (k := 2) vr_246_10 rfl rfl (fun x1965 e1965 => ?_)
  cases e1965
  show zL zrx zi _ 246 11 [(2, _), (0, _), (1, _)] [] _ _ _
  refine zSiload (m := 1) (k := 1) vr_246_11 rfl rfl rfl (fun x1966 e1966 => ?_)
  cases e1966
  refine zSiload (m := 1) (k := 2) vr_246_12 rfl rfl rfl (fun x1967 e1967 => ?_)
  cases e1967
  refine zS2 (f := fun x y => .int (x - y)) vr_246_13 rfl rfl (fun x1968 y1968 e1968 f1968 => ?_)
  cases e1968
  cases f1968
  refine zSb1 (f := fun x => decide (x ≤ 0)) (off := 24) (t := 38) vr_246_14 rfl rfl rfl (fun x1969 e1969 q1969 => ?_) (fun x1969 e1969 q1969 => ?_)
  · cases e1969
    have c1969 := of_decide_eq_true q1969
    refine zSvoid vr_246_38 rfl ?_
    first
      | (have hle : mn ≤ cap := by
           have y := c1969
           have z0 : (0 : Int32).toInt = 0 := rfl
           have b7 := bx.2.2.2.2.2.2.1
           rw [i32_le, on_sub (by omega) (by omega)] at y
           omega
         exact ⟨rfl, KP.refl _ _, W, cap, bx, hle⟩)
      | (obtain ⟨b1, b2, b3, b4, b5, b6, b7, b8, b9, b10, b11⟩ := bx
         have lB := gF_lt b1
         have lm : m ≤ h.length := by omega
         have kp := KP.put g1875 (Nat.le_refl B)
         have old : ∀ x k, x < h.length → ¬ (x = B ∧ k = 0) → gF k1875 x k = gF h x k := fun x k hx n => by
           rw [g1875.2.1, if_neg n, (w2.2 x hx).1 k]
         refine ⟨rfl, ⟨by rw [g1875.1]; exact w2.1, fun x hx => ⟨fun k => old x k (by omega) (by omega), by rw [g1875.2.2.1]; exact (w2.2 x (by omega)).2.1, by rw [g1875.2.2.2]; exact (w2.2 x (by omega)).2.2⟩⟩, h.length, nc, ⟨?_, ?_, ?_, ?_, ?_, by omega, by omega, fun i hi => ?_, b9, lm, by omega⟩, by omega⟩
         · rw [g1875.2.1, if_pos ⟨rfl, rfl⟩]
         · rw [old B 1 lB (by omega)]
           exact b2
         · rw [old B 3 lB (by omega)]
           exact b3
         · rw [g1875.2.2.2]
           exact w3
         · rw [g1875.2.2.1]
           exact w4
         · rw [g1875.2.1, if_neg (by omega), w5 i (by omega)]
           exact b8 i hi)
  · cases e1969
    have c1969 := ndc q1969
    have hlt : cap < mn := by
      have y := c1969
      have z0 : (0 : Int32).toInt = 0 := rfl
      have b7 := bx.2.2.2.2.2.2.1
      rw [i32_le, on_sub (by omega) (by omega)] at y
      omega
    refine zSaload (m := 1) (k := 0) vr_246_17 rfl rfl rfl ?_
    refine zSaload (m := 1) (k := 0) vr_246_18 rfl rfl rfl ?_
    refine zLget vr_246_19 rfl (fun p1973 w1973 e1973 t1973 g1973 => ?_)
    cases e1973
    first | (rw [bx.1] at g1973; cases g1973) | (rw [bx.2.1] at g1973; cases g1973) | skip
    refine zSaload (m := 1) (k := 0) vr_246_22 rfl rfl rfl ?_
    refine zSiload (m := 1) (k := 1) vr_246_23 rfl rfl rfl (fun x1975 e1975 => ?_)
    cases e1975
    refine zScall vr_246_24 rfl rfl rfl (fun m1976 _ => C_ncap _ _ _ _ bx hm hlt) (fun v1976 h1976 u1976 q1976 => ?_) (fun E1976 h1976 u1976 q1976 => ?_)
    · obtain ⟨eh1976, nc, z1976, n1, n2⟩ := q1976
      replace eh1976 := eh1976.symm
      subst eh1976
      cases z1976
      show zL zrx zi _ 246 27 [(2, _), (0, _), (1, _)] [_, _, _] _ _ _
      refine zSaload (m := 1) (k := 0) vr_246_27 rfl rfl rfl ?_
      refine zLget vr_246_28 rfl (fun p1978 w1978 e1978 t1978 g1978 => ?_)
      cases e1978
      first | (rw [bx.1] at g1978; cases g1978) | (rw [bx.2.1] at g1978; cases g1978) | skip
      refine zS2 (f := fun x y => .int (x <<< (y &&& 31))) vr_246_31 rfl rfl (fun x1979 y1979 e1979 f1979 => ?_)
      cases e1979
      cases f1979
      rw [(sh0' nc (by omega)).2]
      refine zScall vr_246_32 rfl rfl rfl (fun m1980 _ => C_cp9 _ _ _ _ _ bx.2.2.2.1 (by omega) (by omega)) (fun v1980 h1980 u1980 q1980 => ?_) (fun E1980 h1980 u1980 q1980 => ?_)
      · obtain ⟨z1980, w2, w3, w4, w5⟩ := q1980
        cases z1980
        show zL zrx zi _ 246 35 [(2, _), (0, _), (1, _)] [_, _] _ _ _
        refine zLput vr_246_35 rfl (fun p1981 k1981 e1981 t1981 g1981 => ?_)
        cases e1981
        refine zSvoid vr_246_38 rfl ?_
        first
          | (have hle : mn ≤ cap := by
               have y := c1969
               have z0 : (0 : Int32).toInt = 0 := rfl
               have b7 := bx.2.2.2.2.2.2.1
               rw [i32_le, on_sub (by omega) (by omega)] at y
               omega
             exact ⟨rfl, KP.refl _ _, W, cap, bx, hle⟩)
          | (obtain ⟨b1, b2, b3, b4, b5, b6, b7, b8, b9, b10, b11⟩ := bx
             have lB := gF_lt b1
             have lm : m ≤ h.length := by omega
             have kp := KP.put g1981 (Nat.le_refl B)
             have old : ∀ x k, x < h.length → ¬ (x = B ∧ k = 0) → gF k1981 x k = gF h x k := fun x k hx n => by
               rw [g1981.2.1, if_neg n, (w2.2 x hx).1 k]
             refine ⟨rfl, ⟨by rw [g1981.1]; exact w2.1, fun x hx => ⟨fun k => old x k (by omega) (by omega), by rw [g1981.2.2.1]; exact (w2.2 x (by omega)).2.1, by rw [g1981.2.2.2]; exact (w2.2 x (by omega)).2.2⟩⟩, h.length, nc, ⟨?_, ?_, ?_, ?_, ?_, by omega, by omega, fun i hi => ?_, b9, lm, by omega⟩, by omega⟩
             · rw [g1981.2.1, if_pos ⟨rfl, rfl⟩]
             · rw [old B 1 lB (by omega)]
               exact b2
             · rw [old B 3 lB (by omega)]
               exact b3
             · rw [g1981.2.2.2]
               exact w3
             · rw [g1981.2.2.1]
               exact w4
             · rw [g1981.2.1, if_neg (by omega), w5 i (by omega)]
               exact b8 i hi)
      · obtain ⟨z, -⟩ := q1980
        cases z
    · obtain ⟨-, _, z, -⟩ := q1976
      cases z
theorem C_gby (nf : Nat) (s W : Nat) (h : List zC) (u : Nat) {T : Nat → Int32} {L b : Nat} (d : SB T L s b h) : zL zrx zi nf 266 0 [(0, .ref s), (1, .ref W), (2, .int (Int32.ofNat 0)), (3, .int 0)] [] h u (fun o h2 _ => o = .inl none ∧ hCpy h h2 b 0 W 0 L) := by
  refine zSaload (m := 1) (k := 0) vr_266_0 rfl rfl rfl ?_
  refine zScall vr_266_1 rfl rfl rfl (fun m1984 _ => C_coder _ _ _ _ d.2.1) (fun v1984 h1984 u1984 q1984 => ?_) (fun E1984 h1984 u1984 q1984 => ?_)
  · obtain ⟨eh1984, z1984⟩ := q1984
    replace eh1984 := eh1984.symm
    subst eh1984
    cases z1984
    show zL zrx zi _ 266 4 [(0, _), (1, _), (2, _), (3, _)] [_] _ _ _
    refine zSiload (m := 1) (k := 3) vr_266_4 rfl rfl rfl (fun x1985 e1985 => ?_)
    cases e1985
    refine zSb2 (f := fun x y => decide (¬ x = y)) (off := 23) (t := 28) vr_266_5 rfl rfl rfl (fun x1986 y1986 e1986 f1986 q1986 => ?_) (fun x1986 y1986 e1986 f1986 q1986 => ?_)
    · cases e1986
      cases f1986
      have c1986 := of_decide_eq_true q1986
      exact absurd rfl c1986
    · cases e1986
      cases f1986
      have c1986 := ndc q1986
      refine zSaload (m := 1) (k := 0) vr_266_8 rfl rfl rfl ?_
      refine zLget vr_266_9 rfl (fun p1988 w1988 e1988 t1988 g1988 => ?_)
      cases e1988
      first | (rw [d.1] at g1988; cases g1988) | skip
      refine zSp0 (pc' := 13) (st' := .int (0) :: _) vr_266_12 rfl rfl ?_
      refine zSaload (m := 1) (k := 1) vr_266_13 rfl rfl rfl ?_
      refine zSiload (m := 1) (k := 2) vr_266_14 rfl rfl rfl (fun x1991 e1991 => ?_)
      cases e1991
      refine zSiload (m := 1) (k := 3) vr_266_15 rfl rfl rfl (fun x1992 e1992 => ?_)
      cases e1992
      refine zS2 (f := fun x y => .int (x <<< (y &&& 31))) vr_266_16 rfl rfl (fun x1993 y1993 e1993 f1993 => ?_)
      cases e1993
      cases f1993
      refine zSaload (m := 1) (k := 0) vr_266_17 rfl rfl rfl ?_
      refine zLget vr_266_18 rfl (fun p1995 w1995 e1995 t1995 g1995 => ?_)
      cases e1995
      first | (rw [d.1] at g1995; cases g1995) | skip
      refine zLlen vr_266_21 rfl (fun p1996 m1996 e1996 g1996 => ?_)
      cases e1996
      have en := g1996
      rw [d.2.2.1] at en
      cases en
      refine zLarc vr_266_22 rfl (fun p1997 d1997 x1997 y1997 m1997 k1997 e1997 f1997 i1997 j1997 l1997 n1997 o1997 s1997 c1997 => ?_)
      cases e1997
      cases f1997
      cases i1997
      cases j1997
      cases l1997
      refine zSgo (t := 43) vr_266_25 rfl rfl ?_
      refine zSvoid vr_266_43 rfl ?_
      have gc := c1997
      have l60 := d.l60
      rw [show (0 : Int32).toNatClampNeg = 0 from rfl, show (Int32.ofNat 0 <<< ((0 : Int32) &&& 31)).toNatClampNeg = 0 from rfl, (toNat_ofNat (show L < 2147483648 by omega)).1] at gc
      exact ⟨rfl, gc⟩
  · obtain ⟨-, z⟩ := q1984
    cases z
theorem C_ifn (nf : Nat) (B s : Nat) (h : List zC) (u : Nat) {T : Nat → Int32} {L b : Nat} (hB : gF h B 1 = some (.int 0)) (d : SB T L s b h) : zL zrx zi nf 255 0 [(0, .ref B), (1, .ref s)] [] h u (fun o h2 _ => h2 = h ∧ o = .inl none) := by
  refine zScstV (v := .int (Int32.ofNat 1)) vr_255_0 rfl rfl ?_
  refine zSb1 (f := fun x => decide (x = 0)) (off := 18) (t := 21) vr_255_3 rfl rfl rfl (fun x2001 e2001 q2001 => ?_) (fun x2001 e2001 q2001 => ?_)
  · cases e2001
    have c2001 := of_decide_eq_true q2001
    refine zSvoid vr_255_21 rfl ?_
    first
      | exact ⟨rfl, rfl⟩
      | exact absurd c2001 (by decide)
  · cases e2001
    have c2001 := ndc q2001
    refine zSaload (m := 1) (k := 0) vr_255_6 rfl rfl rfl ?_
    refine zLget vr_255_7 rfl (fun p2004 w2004 e2004 t2004 g2004 => ?_)
    cases e2004
    first | (rw [hB] at g2004; cases g2004) | skip
    refine zSaload (m := 1) (k := 1) vr_255_10 rfl rfl rfl ?_
    refine zScall vr_255_11 rfl rfl rfl (fun m2006 _ => C_coder _ _ _ _ d.2.1) (fun v2006 h2006 u2006 q2006 => ?_) (fun E2006 h2006 u2006 q2006 => ?_)
    · obtain ⟨eh2006, z2006⟩ := q2006
      replace eh2006 := eh2006.symm
      subst eh2006
      cases z2006
      show zL zrx zi _ 255 14 [(0, _), (1, _)] [_, _] _ _ _
      refine zSb2 (f := fun x y => decide (x = y)) (off := 7) (t := 21) vr_255_14 rfl rfl rfl (fun x2007 y2007 e2007 f2007 q2007 => ?_) (fun x2007 y2007 e2007 f2007 q2007 => ?_)
      · cases e2007
        cases f2007
        have c2007 := of_decide_eq_true q2007
        refine zSvoid vr_255_21 rfl ?_
        first
          | exact ⟨rfl, rfl⟩
          | exact absurd c2001 (by decide)
      · cases e2007
        cases f2007
        have c2007 := ndc q2007
        exact absurd rfl c2007
    · obtain ⟨-, z⟩ := q2006
      cases z
theorem C_pst (nf : Nat) (B s : Nat) (h : List zC) (u : Nat) {m W cap n : Nat} {f : Nat → Int32} (bx : BX m h B W cap n f) {T : Nat → Int32} {L b : Nat} (d : SB T L s b h) : zL zrx zi nf 256 0 [(0, .ref B), (1, .int (Int32.ofNat 0)), (2, .ref s)] [] h u (fun o h2 _ => o = .inl none ∧ hCpy h h2 b 0 W 0 L) := by
  refine zSaload (m := 1) (k := 0) vr_256_0 rfl rfl rfl ?_
  refine zSaload (m := 1) (k := 2) vr_256_1 rfl rfl rfl ?_
  refine zScall vr_256_2 rfl rfl rfl (fun m2011 _ => C_ifn _ _ _ _ _ bx.2.1 d) (fun v2011 h2011 u2011 q2011 => ?_) (fun E2011 h2011 u2011 q2011 => ?_)
  · obtain ⟨eh2011, z2011⟩ := q2011
    replace eh2011 := eh2011.symm
    subst eh2011
    cases z2011
    show zL zrx zi _ 256 5 [(0, _), (1, _), (2, _)] [] _ _ _
    refine zSaload (m := 1) (k := 2) vr_256_5 rfl rfl rfl ?_
    refine zSaload (m := 1) (k := 0) vr_256_6 rfl rfl rfl ?_
    refine zLget vr_256_7 rfl (fun p2014 w2014 e2014 t2014 g2014 => ?_)
    cases e2014
    first | (rw [bx.1] at g2014; cases g2014) | (rw [bx.2.1] at g2014; cases g2014) | skip
    refine zSiload (m := 1) (k := 1) vr_256_10 rfl rfl rfl (fun x2015 e2015 => ?_)
    cases e2015
    refine zSaload (m := 1) (k := 0) vr_256_11 rfl rfl rfl ?_
    refine zLget vr_256_12 rfl (fun p2017 w2017 e2017 t2017 g2017 => ?_)
    cases e2017
    first | (rw [bx.1] at g2017; cases g2017) | (rw [bx.2.1] at g2017; cases g2017) | skip
    refine zScall vr_256_15 rfl rfl rfl (fun m2018 _ => C_gby _ _ _ _ _ d) (fun v2018 h2018 u2018 q2018 => ?_) (fun E2018 h2018 u2018 q2018 => ?_)
    · obtain ⟨z2018, w1⟩ := q2018
      cases z2018
      show zL zrx zi _ 256 18 [(0, _), (1, _), (2, _)] [] _ _ _
      refine zSvoid vr_256_18 rfl ?_
      exact ⟨rfl, w1⟩
    · obtain ⟨z, -⟩ := q2018
      cases z
  · obtain ⟨-, z⟩ := q2011
    cases z
theorem C_app (nf : Nat) (B s : Nat) (h : List zC) (u : Nat) {m W cap : Nat} {f : Nat → Int32} (bx : BX m h B W cap 0 f) {T : Nat → Int32} {L b : Nat} (d : SB T L s b h) (hs : s < m) (hb : b < m) : zL zrx zi nf 249 0 [(0, .ref B), (1, .ref s)] [] h u (fun o h2 _ => o = .inl (some (.ref B)) ∧ KP m h h2 ∧ ∃ W2 cap2 : Nat, BX m h2 B W2 cap2 L T) := by
  refine zSaload (m := 1) (k := 1) vr_249_0 rfl rfl rfl ?_
  refine zLinn (t := 9) vr_249_1 rfl rfl (fun q2021 e2021 => ?_) (fun e2021 => by cases e2021)
  cases e2021
  refine zSaload (m := 1) (k := 1) vr_249_9 rfl rfl rfl ?_
  refine zScall vr_249_10 rfl rfl rfl (fun m2023 _ => C_slen _ _ _ _ d) (fun v2023 h2023 u2023 q2023 => ?_) (fun E2023 h2023 u2023 q2023 => ?_)
  · obtain ⟨eh2023, z2023⟩ := q2023
    replace eh2023 := eh2023.symm
    subst eh2023
    cases z2023
    show zL zrx zi _ 249 13 [(0, _), (1, _)] [_] _ _ _
    refine zSistore (m := 1) (k := 2) vr_249_13 rfl rfl (fun x2024 e2024 => ?_)
    cases e2024
    show zL zrx zi _ 249 14 [(2, _), (0, _), (1, _)] [] _ _ _
    refine zSaload (m := 1) (k := 0) vr_249_14 rfl rfl rfl ?_
    refine zSaload (m := 1) (k := 0) vr_249_15 rfl rfl rfl ?_
    refine zLget vr_249_16 rfl (fun p2027 w2027 e2027 t2027 g2027 => ?_)
    cases e2027
    first | (rw [bx.2.2.1] at g2027; cases g2027) | (rw [bx2.2.2.1] at g2027; cases g2027) | (rw [b3b] at g2027; cases g2027) | skip
    refine zSiload (m := 1) (k := 2) vr_249_19 rfl rfl rfl (fun x2028 e2028 => ?_)
    cases e2028
    refine zS2 (f := fun x y => .int (x + y)) vr_249_20 rfl rfl (fun x2029 y2029 e2029 f2029 => ?_)
    cases e2029
    cases f2029
    rw [on0_add L]
    refine zScall vr_249_21 rfl rfl rfl (fun m2030 _ => C_ens _ _ _ _ bx (by have := d.l60; omega)) (fun v2030 h2030 u2030 q2030 => ?_) (fun E2030 h2030 u2030 q2030 => ?_)
    · obtain ⟨z2030, w1, W2, cap2, bx2, le2⟩ := q2030
      cases z2030
      have d2 := d.kp w1 hs hb
      show zL zrx zi _ 249 24 [(2, _), (0, _), (1, _)] [] _ _ _
      refine zSaload (m := 1) (k := 0) vr_249_24 rfl rfl rfl ?_
      refine zSaload (m := 1) (k := 0) vr_249_25 rfl rfl rfl ?_
      refine zLget vr_249_26 rfl (fun p2033 w2033 e2033 t2033 g2033 => ?_)
      cases e2033
      first | (rw [bx.2.2.1] at g2033; cases g2033) | (rw [bx2.2.2.1] at g2033; cases g2033) | (rw [b3b] at g2033; cases g2033) | skip
      refine zSaload (m := 1) (k := 1) vr_249_29 rfl rfl rfl ?_
      refine zScall vr_249_30 rfl rfl rfl (fun m2035 _ => C_pst _ _ _ _ _ bx2 d2) (fun v2035 h2035 u2035 q2035 => ?_) (fun E2035 h2035 u2035 q2035 => ?_)
      · obtain ⟨z2035, w3⟩ := q2035
        cases z2035
        show zL zrx zi _ 249 33 [(2, _), (0, _), (1, _)] [] _ _ _
        have b3b : gF h2035 B 3 = some (.int (Int32.ofNat 0)) := by
          rw [w3.2.1, if_neg (fun z => bx2.2.2.2.2.2.2.2.2.2.2 z.1)]
          exact bx2.2.2.1
        refine zSaload (m := 1) (k := 0) vr_249_33 rfl rfl rfl ?_
        refine zSdup vr_249_34 rfl ?_
        refine zLget vr_249_35 rfl (fun p2038 w2038 e2038 t2038 g2038 => ?_)
        cases e2038
        first | (rw [bx.2.2.1] at g2038; cases g2038) | (rw [bx2.2.2.1] at g2038; cases g2038) | (rw [b3b] at g2038; cases g2038) | skip
        refine zSiload (m := 1) (k := 2) vr_249_38 rfl rfl rfl (fun x2039 e2039 => ?_)
        cases e2039
        refine zS2 (f := fun x y => .int (x + y)) vr_249_39 rfl rfl (fun x2040 y2040 e2040 f2040 => ?_)
        cases e2040
        cases f2040
        rw [on0_add L]
        refine zLput vr_249_40 rfl (fun p2041 k2041 e2041 t2041 g2041 => ?_)
        cases e2041
        refine zSaload (m := 1) (k := 0) vr_249_43 rfl rfl rfl ?_
        refine zSaret vr_249_44 rfl ?_
        obtain ⟨b1, b2, b3, b4, b5, b6, b7, b8, b9, b10, b11⟩ := bx2
        have old : ∀ x k, ¬ x = W2 → ¬ (x = B ∧ k = 3) → gF k2041 x k = gF h2030 x k := fun x k n1 n2 => by
          rw [g2041.2.1, if_neg n2, w3.2.1, if_neg (fun z => n1 z.1)]
        refine ⟨rfl, w1.trans ((KP.cpy w3 b10).trans (KP.put g2041 b9)), W2, cap2, ?_, ?_, ?_, ?_, ?_, le2, b7, fun i hi => ?_, b9, b10, b11⟩
        · rw [old B 0 b11 (by omega)]
          exact b1
        · rw [old B 1 b11 (by omega)]
          exact b2
        · rw [g2041.2.1, if_pos ⟨rfl, rfl⟩]
        · rw [g2041.2.2.2, w3.2.2.2]
          exact b4
        · rw [g2041.2.2.1, w3.2.2.1]
          exact b5
        · rw [g2041.2.1, if_neg (fun z => b11 z.1.symm), w3.2.1, if_pos ⟨rfl, Nat.zero_le _, by omega⟩, Nat.zero_add, Nat.sub_zero]
          exact (d2.2.2.2.2.1 i hi).1
      · obtain ⟨z, -⟩ := q2035
        cases z
    · obtain ⟨z, -⟩ := q2030
      cases z
  · obtain ⟨-, z⟩ := q2023
    cases z
theorem C_app4 (nf : Nat) (B s : Nat) (h : List zC) (u : Nat) {m W cap : Nat} {f : Nat → Int32} (bx : BX m h B W cap 0 f) {T : Nat → Int32} {L b : Nat} (d : SB T L s b h) (hs : s < m) (hb : b < m) : zL zrx zi nf 274 0 [(0, .ref B), (1, .ref s)] [] h u (fun o h2 _ => o = .inl (some (.ref B)) ∧ KP m h h2 ∧ ∃ W2 cap2 : Nat, BX m h2 B W2 cap2 L T) := by
  refine zSaload (m := 1) (k := 0) vr_274_0 rfl rfl rfl ?_
  refine zSaload (m := 1) (k := 1) vr_274_1 rfl rfl rfl ?_
  refine zScall vr_274_2 rfl rfl rfl (fun m2046 _ => C_app _ _ _ _ _ bx d hs hb) (fun v2046 h2046 u2046 q2046 => ?_) (fun E2046 h2046 u2046 q2046 => ?_)
  · obtain ⟨z2046, w1, w2⟩ := q2046
    cases z2046
    show zL zrx zi _ 274 5 [(0, _), (1, _)] [_] _ _ _
    refine zSpop vr_274_5 rfl ?_
    refine zSaload (m := 1) (k := 0) vr_274_6 rfl rfl rfl ?_
    refine zSaret vr_274_7 rfl ?_
    exact ⟨rfl, w1, w2⟩
  · obtain ⟨z, -⟩ := q2046
    cases z
theorem C_sbl (nf : Nat) (B : Nat) (h : List zC) (u : Nat) (hB : gF h B 1 = some (.int 0)) : zL zrx zi nf 254 0 [(0, .ref B)] [] h u (fun o h2 _ => h2 = h ∧ o = .inl (some (.int 1))) := by
  refine zScstV (v := .int (Int32.ofNat 1)) vr_254_0 rfl rfl ?_
  refine zSb1 (f := fun x => decide (x = 0)) (off := 14) (t := 17) vr_254_3 rfl rfl rfl (fun x2051 e2051 q2051 => ?_) (fun x2051 e2051 q2051 => ?_)
  · cases e2051
    have c2051 := of_decide_eq_true q2051
    refine zSp0 (pc' := 18) (st' := .int (0) :: _) vr_254_17 rfl rfl ?_
    refine zLiret vr_254_18 rfl (fun x2053 e2053 => ?_)
    cases e2053
    first
      | exact ⟨rfl, rfl⟩
      | exact absurd c2051 (by decide)
      | exact absurd rfl c2023
      | exact absurd c2023 (by decide)
  · cases e2051
    have c2051 := ndc q2051
    refine zSaload (m := 1) (k := 0) vr_254_6 rfl rfl rfl ?_
    refine zLget vr_254_7 rfl (fun p2055 w2055 e2055 t2055 g2055 => ?_)
    cases e2055
    first | (rw [hB] at g2055; cases g2055) | skip
    refine zSb1 (f := fun x => decide (¬ x = 0)) (off := 7) (t := 17) vr_254_10 rfl rfl rfl (fun x2056 e2056 q2056 => ?_) (fun x2056 e2056 q2056 => ?_)
    · cases e2056
      have c2056 := of_decide_eq_true q2056
      refine zSp0 (pc' := 18) (st' := .int (0) :: _) vr_254_17 rfl rfl ?_
      refine zLiret vr_254_18 rfl (fun x2058 e2058 => ?_)
      cases e2058
      first
        | exact ⟨rfl, rfl⟩
        | exact absurd c2051 (by decide)
        | exact absurd rfl c2056
        | exact absurd c2056 (by decide)
    · cases e2056
      have c2056 := ndc q2056
      refine zSp0 (pc' := 14) (st' := .int (1) :: _) vr_254_13 rfl rfl ?_
      refine zSgo (t := 18) vr_254_14 rfl rfl ?_
      refine zLiret vr_254_18 rfl (fun x2061 e2061 => ?_)
      cases e2061
      first
        | exact ⟨rfl, rfl⟩
        | exact absurd c2051 (by decide)
        | exact absurd rfl c2056
        | exact absurd c2056 (by decide)
theorem C_enc (nf : Nat) (c : Int32) (h : List zC) (u : Nat) (hc : rI 32 126 c) : zL zrx zi nf 280 0 [(0, .int c)] [] h u (fun o h2 _ => h2 = h ∧ o = .inl (some (.int 1))) := by
  refine zSiload (m := 1) (k := 0) vr_280_0 rfl rfl rfl (fun x2062 e2062 => ?_)
  cases e2062
  refine zSp0 (pc' := 4) (st' := .int (255) :: _) vr_280_1 rfl rfl ?_
  refine zSb2 (f := fun x y => decide (y < x)) (off := 7) (t := 11) vr_280_4 rfl rfl rfl (fun x2064 y2064 e2064 f2064 q2064 => ?_) (fun x2064 y2064 e2064 f2064 q2064 => ?_)
  · cases e2064
    cases f2064
    have c2064 := of_decide_eq_true q2064
    refine zSp0 (pc' := 12) (st' := .int (0) :: _) vr_280_11 rfl rfl ?_
    refine zLiret vr_280_12 rfl (fun x2066 e2066 => ?_)
    cases e2066
    first
      | exact ⟨rfl, rfl⟩
      | (exfalso
         have y := c2064
         rw [i32_lt] at y
         have z1 : (255 : Int32).toInt = 255 := rfl
         have z2 : (126 : Int32).toInt = 126 := rfl
         have := hc.2
         omega)
  · cases e2064
    cases f2064
    have c2064 := ndc q2064
    refine zSp0 (pc' := 8) (st' := .int (1) :: _) vr_280_7 rfl rfl ?_
    refine zSgo (t := 12) vr_280_8 rfl rfl ?_
    refine zLiret vr_280_12 rfl (fun x2069 e2069 => ?_)
    cases e2069
    first
      | exact ⟨rfl, rfl⟩
      | (exfalso
         have y := c2064
         rw [i32_lt] at y
         have z1 : (255 : Int32).toInt = 255 := rfl
         have z2 : (126 : Int32).toInt = 126 := rfl
         have := hc.2
         omega)
theorem C_apc (nf : Nat) (B : Nat) (c : Int32) (h : List zC) (u : Nat) {m W cap n : Nat} {f : Nat → Int32} (bx : BX m h B W cap n f) (hn : n ≤ 60) (hc : rI 32 126 c) : zL zrx zi nf 251 0 [(0, .ref B), (1, .int c)] [] h u (fun o h2 _ => o = .inl (some (.ref B)) ∧ KP m h h2 ∧ ∃ W2 cap2 : Nat, BX m h2 B W2 cap2 (n + 1) (fun i => if i = n then c else f i)) := by
  refine zSaload (m := 1) (k := 0) vr_251_0 rfl rfl rfl ?_
  refine zSaload (m := 1) (k := 0) vr_251_1 rfl rfl rfl ?_
  refine zLget vr_251_2 rfl (fun p2072 w2072 e2072 t2072 g2072 => ?_)
  cases e2072
  first | (rw [bx.2.2.1] at g2072; cases g2072) | (rw [bx2.1] at g2072; cases g2072) | (rw [bx2.2.2.1] at g2072; cases g2072) | skip
  refine zSp0 (pc' := 6) (st' := .int (1) :: _) vr_251_5 rfl rfl ?_
  refine zS2 (f := fun x y => .int (x + y)) vr_251_6 rfl rfl (fun x2074 y2074 e2074 f2074 => ?_)
  cases e2074
  cases f2074
  rw [ofNat_succ1]
  refine zScall vr_251_7 rfl rfl rfl (fun m2075 _ => C_ens _ (n + 1) _ _ bx (by omega)) (fun v2075 h2075 u2075 q2075 => ?_) (fun E2075 h2075 u2075 q2075 => ?_)
  · obtain ⟨z2075, w1, W2, cap2, bx2, le2⟩ := q2075
    cases z2075
    show zL zrx zi _ 251 10 [(0, _), (1, _)] [] _ _ _
    refine zSaload (m := 1) (k := 0) vr_251_10 rfl rfl rfl ?_
    refine zScall vr_251_11 rfl rfl rfl (fun m2077 _ => C_sbl _ _ _ _ bx2.2.1) (fun v2077 h2077 u2077 q2077 => ?_) (fun E2077 h2077 u2077 q2077 => ?_)
    · obtain ⟨eh2077, z2077⟩ := q2077
      replace eh2077 := eh2077.symm
      subst eh2077
      cases z2077
      show zL zrx zi _ 251 14 [(0, _), (1, _)] [_] _ _ _
      refine zSb1 (f := fun x => decide (x = 0)) (off := 31) (t := 45) vr_251_14 rfl rfl rfl (fun x2078 e2078 q2078 => ?_) (fun x2078 e2078 q2078 => ?_)
      · cases e2078
        have c2078 := of_decide_eq_true q2078
        first
          | exact absurd c2078 (by decide)
          | exact absurd c2030 (by decide)
      · cases e2078
        have c2078 := ndc q2078
        refine zSiload (m := 1) (k := 1) vr_251_17 rfl rfl rfl (fun x2079 e2079 => ?_)
        cases e2079
        refine zScall vr_251_18 rfl rfl rfl (fun m2080 _ => C_enc _ _ _ _ hc) (fun v2080 h2080 u2080 q2080 => ?_) (fun E2080 h2080 u2080 q2080 => ?_)
        · obtain ⟨eh2080, z2080⟩ := q2080
          replace eh2080 := eh2080.symm
          subst eh2080
          cases z2080
          show zL zrx zi _ 251 21 [(0, _), (1, _)] [_] _ _ _
          refine zSb1 (f := fun x => decide (x = 0)) (off := 24) (t := 45) vr_251_21 rfl rfl rfl (fun x2081 e2081 q2081 => ?_) (fun x2081 e2081 q2081 => ?_)
          · cases e2081
            have c2081 := of_decide_eq_true q2081
            first
              | exact absurd c2078 (by decide)
              | exact absurd c2081 (by decide)
          · cases e2081
            have c2081 := ndc q2081
            refine zSaload (m := 1) (k := 0) vr_251_24 rfl rfl rfl ?_
            refine zLget vr_251_25 rfl (fun p2083 w2083 e2083 t2083 g2083 => ?_)
            cases e2083
            first | (rw [bx.2.2.1] at g2083; cases g2083) | (rw [bx2.1] at g2083; cases g2083) | (rw [bx2.2.2.1] at g2083; cases g2083) | skip
            refine zSaload (m := 1) (k := 0) vr_251_28 rfl rfl rfl ?_
            refine zSdup vr_251_29 rfl ?_
            refine zLget vr_251_30 rfl (fun p2086 w2086 e2086 t2086 g2086 => ?_)
            cases e2086
            first | (rw [bx.2.2.1] at g2086; cases g2086) | (rw [bx2.1] at g2086; cases g2086) | (rw [bx2.2.2.1] at g2086; cases g2086) | skip
            refine zSdupx vr_251_33 rfl rfl ?_
            refine zSp0 (pc' := 35) (st' := .int (1) :: _) vr_251_34 rfl rfl ?_
            refine zS2 (f := fun x y => .int (x + y)) vr_251_35 rfl rfl (fun x2089 y2089 e2089 f2089 => ?_)
            cases e2089
            cases f2089
            refine zLput vr_251_36 rfl (fun p2090 k2090 e2090 t2090 g2090 => ?_)
            cases e2090
            refine zSiload (m := 1) (k := 1) vr_251_39 rfl rfl rfl (fun x2091 e2091 => ?_)
            cases e2091
            refine zS1 (f := fun x => .int x.toInt8.toInt32) vr_251_40 rfl rfl (fun x2092 e2092 => ?_)
            cases e2092
            refine zLbast vr_251_41 rfl (fun p2093 x2093 z2093 t2093 k2093 e2093 f2093 d2093 c2093 y2093 l2093 g2093 => ?_)
            cases e2093
            cases f2093
            cases d2093
            refine zSgo (t := 75) vr_251_42 rfl rfl ?_
            refine zSaload (m := 1) (k := 0) vr_251_75 rfl rfl rfl ?_
            refine zSaret vr_251_76 rfl ?_
            obtain ⟨b1, b2, b3, b4, b5, b6, b7, b8, b9, b10, b11⟩ := bx2
            have y5 := y2093
            rw [g2090.2.2.1, b5] at y5
            cases y5
            have gp := g2093
            rw [if_pos rfl, (toNat_ofNat (show n < 2147483648 by omega)).1] at gp
            have old : ∀ x k, ¬ (x = W2 ∧ k = n) → ¬ (x = B ∧ k = 3) → gF k2093 x k = gF h2075 x k := fun x k n1 n2 => by
              rw [gp.2.1, if_neg n1, g2090.2.1, if_neg n2]
            refine ⟨rfl, w1.trans ((KP.put g2090 b9).trans (KP.put gp b10)), W2, cap2, ?_, ?_, ?_, ?_, ?_, le2, b7, fun i hi => ?_, b9, b10, b11⟩
            · rw [old B 0 (fun z => b11 z.1) (by omega)]
              exact b1
            · rw [old B 1 (fun z => b11 z.1) (by omega)]
              exact b2
            · rw [gp.2.1, if_neg (fun z => b11 z.1), g2090.2.1, if_pos ⟨rfl, rfl⟩, ofNat_succ1]
            · rw [gp.2.2.2, g2090.2.2.2]
              exact b4
            · rw [gp.2.2.1, g2090.2.2.1]
              exact b5
            · by_cases e : i = n
              · show gF k2093 W2 i = some (Value.int (if i = n then c else f i))
                rw [if_pos e, gp.2.1, if_pos ⟨rfl, e⟩]
                show some (Value.int (c.toInt8.toInt32).toInt8.toInt32) = _
                rw [(ch_of hc).1]
              · show gF k2093 W2 i = some (Value.int (if i = n then c else f i))
                rw [if_neg e, old W2 i (fun z => e z.2) (fun z => b11 z.1.symm)]
                exact b8 i (by omega)
        · obtain ⟨-, z⟩ := q2080
          cases z
    · obtain ⟨-, z⟩ := q2077
      cases z
  · obtain ⟨z, -⟩ := q2075
    cases z
theorem C_apc4 (nf : Nat) (B : Nat) (c : Int32) (h : List zC) (u : Nat) {m W cap n : Nat} {f : Nat → Int32} (bx : BX m h B W cap n f) (hn : n ≤ 60) (hc : rI 32 126 c) : zL zrx zi nf 275 0 [(0, .ref B), (1, .int c)] [] h u (fun o h2 _ => o = .inl (some (.ref B)) ∧ KP m h h2 ∧ ∃ W2 cap2 : Nat, BX m h2 B W2 cap2 (n + 1) (fun i => if i = n then c else f i)) := by
  refine zSaload (m := 1) (k := 0) vr_275_0 rfl rfl rfl ?_
  refine zSiload (m := 1) (k := 1) vr_275_1 rfl rfl rfl (fun x2098 e2098 => ?_)
  cases e2098
  refine zScall vr_275_2 rfl rfl rfl (fun m2099 _ => C_apc _ _ _ _ _ bx hn hc) (fun v2099 h2099 u2099 q2099 => ?_) (fun E2099 h2099 u2099 q2099 => ?_)
  · obtain ⟨z2099, w1, w2⟩ := q2099
    cases z2099
    show zL zrx zi _ 275 5 [(0, _), (1, _)] [_] _ _ _
    refine zSpop vr_275_5 rfl ?_
    refine zSaload (m := 1) (k := 0) vr_275_6 rfl rfl rfl ?_
    refine zSaret vr_275_7 rfl ?_
    exact ⟨rfl, w1, w2⟩
  · obtain ⟨z, -⟩ := q2099
    cases z
theorem C_ckl (nf : Nat) (x y : Int32) (h : List zC) (u : Nat) (hxy : x ≤ y) : zL zrx zi nf 313 0 [(0, .int x), (1, .int y)] [] h u (fun o h2 _ => h2 = h ∧ o = .inl none) := by
  refine zSiload (m := 1) (k := 1) vr_313_0 rfl rfl rfl (fun x2103 e2103 => ?_)
  cases e2103
  refine zSiload (m := 1) (k := 0) vr_313_1 rfl rfl rfl (fun x2104 e2104 => ?_)
  cases e2104
  refine zSb2 (f := fun x y => decide (y ≤ x)) (off := 35) (t := 37) vr_313_2 rfl rfl rfl (fun x2105 y2105 e2105 f2105 q2105 => ?_) (fun x2105 y2105 e2105 f2105 q2105 => ?_)
  · cases e2105
    cases f2105
    have c2105 := of_decide_eq_true q2105
    refine zSvoid vr_313_37 rfl ?_
    exact ⟨rfl, rfl⟩
  · cases e2105
    cases f2105
    have c2105 := ndc q2105
    exact absurd c2105 (not_not_intro hxy)
theorem C_crb (nf : Nat) (W n : Nat) (h : List zC) (u : Nat) {cap : Nat} (hN : gN h W = some cap) (hn : n ≤ cap) (hc : cap ≤ 400) : zL zrx zi nf 315 0 [(0, .ref W), (1, .int 0), (2, .int (Int32.ofNat n))] [] h u (fun o h2 _ => o = .inl (some (.ref h.length)) ∧ KP h.length h h2 ∧ gN h2 h.length = some n ∧ ∀ i, i < n → gF h2 h.length i = gF h W i) := by
  refine zSiload (m := 1) (k := 1) vr_315_0 rfl rfl rfl (fun x2107 e2107 => ?_)
  cases e2107
  refine zSiload (m := 1) (k := 2) vr_315_1 rfl rfl rfl (fun x2108 e2108 => ?_)
  cases e2108
  refine zScall vr_315_2 rfl rfl rfl (fun m2109 _ => C_ckl _ _ _ _ _ (Int32.le_iff_toInt_le.mpr (by rw [(toNat_ofNat (show n < 2147483648 by omega)).2]; show (0 : Int) ≤ _; omega))) (fun v2109 h2109 u2109 q2109 => ?_) (fun E2109 h2109 u2109 q2109 => ?_)
  · obtain ⟨eh2109, z2109⟩ := q2109
    replace eh2109 := eh2109.symm
    subst eh2109
    cases z2109
    show zL zrx zi _ 315 5 [(0, _), (1, _), (2, _)] [] _ _ _
    refine zSiload (m := 1) (k := 2) vr_315_5 rfl rfl rfl (fun x2110 e2110 => ?_)
    cases e2110
    refine zSiload (m := 1) (k := 1) vr_315_6 rfl rfl rfl (fun x2111 e2111 => ?_)
    cases e2111
    refine zS2 (f := fun x y => .int (x - y)) vr_315_7 rfl rfl (fun x2112 y2112 e2112 f2112 => ?_)
    cases e2112
    cases f2112
    refine zSistore (m := 1) (k := 3) vr_315_8 rfl rfl (fun x2113 e2113 => ?_)
    cases e2113
    show zL zrx zi _ 315 9 [(3, _), (0, _), (1, _), (2, _)] [] _ _ _
    refine zSiload (m := 1) (k := 3) vr_315_9 rfl rfl rfl (fun x2114 e2114 => ?_)
    cases e2114
    refine zLnarr vr_315_10 rfl (fun m2115 k2115 u2115 e2115 n2115 g2115 => ?_)
    cases e2115
    refine zSastore (m := 2) (k := 4) vr_315_12 rfl rfl ?_
    show zL zrx zi _ 315 14 [(4, _), (3, _), (0, _), (1, _), (2, _)] [] _ _ _
    refine zSaload (m := 1) (k := 0) vr_315_14 rfl rfl rfl ?_
    refine zSiload (m := 1) (k := 1) vr_315_15 rfl rfl rfl (fun x2118 e2118 => ?_)
    cases e2118
    refine zSaload (m := 2) (k := 4) vr_315_16 rfl rfl rfl ?_
    refine zSp0 (pc' := 19) (st' := .int (0) :: _) vr_315_18 rfl rfl ?_
    refine zSaload (m := 1) (k := 0) vr_315_19 rfl rfl rfl ?_
    refine zLlen vr_315_20 rfl (fun p2122 m2122 e2122 g2122 => ?_)
    cases e2122
    have en := g2122
    rw [(g2115.ext.T (gN_lt hN)).2, hN] at en
    cases en
    refine zSiload (m := 1) (k := 1) vr_315_21 rfl rfl rfl (fun x2123 e2123 => ?_)
    cases e2123
    refine zS2 (f := fun x y => .int (x - y)) vr_315_22 rfl rfl (fun x2124 y2124 e2124 f2124 => ?_)
    cases e2124
    cases f2124
    refine zSiload (m := 1) (k := 3) vr_315_23 rfl rfl rfl (fun x2125 e2125 => ?_)
    cases e2125
    refine zScall vr_315_24 rfl rfl rfl (fun m2126 _ => C_mnI _ _ _ _ _) (fun v2126 h2126 u2126 q2126 => ?_) (fun E2126 h2126 u2126 q2126 => ?_)
    · obtain ⟨eh2126, z2126⟩ := q2126
      subst eh2126
      cases z2126
      show zL zrx zi _ 315 27 [(4, _), (3, _), (0, _), (1, _), (2, _)] [_, _, _, _, _] _ _ _
      refine zLarc vr_315_27 rfl (fun p2127 d2127 x2127 y2127 m2127 k2127 e2127 f2127 i2127 j2127 l2127 n2127 o2127 s2127 c2127 => ?_)
      cases e2127
      cases f2127
      cases i2127
      cases j2127
      cases l2127
      refine zSaload (m := 2) (k := 4) vr_315_30 rfl rfl rfl ?_
      refine zSaret vr_315_32 rfl ?_
      have lW := gN_lt hN
      have z0 : (0 : Int32).toNatClampNeg = 0 := rfl
      have hm : mnI (Int32.ofNat cap - 0) (Int32.ofNat n - 0) = Int32.ofNat n := by
        rw [Int32.sub_zero, Int32.sub_zero]
        unfold mnI
        by_cases z : Int32.ofNat n < Int32.ofNat cap
        · rw [if_pos z]
        · rw [if_neg z]
          rw [(on_lt (a := n) (b := cap) (by omega) (by omega)).1] at z
          rw [show cap = n by omega]
      have gc := c2127
      rw [hm, z0, (toNat_ofNat (show n < 2147483648 by omega)).1] at gc
      refine ⟨rfl, (KP.new g2115 (Nat.le_refl _)).trans (KP.cpy gc (Nat.le_refl _)), ?_, fun i hi => ?_⟩
      · rw [gc.2.2.2, g2115.cn.1, List.length_replicate, Int32.sub_zero, (toNat_ofNat (show n < 2147483648 by omega)).1]
      · rw [gc.2.1, if_pos ⟨rfl, Nat.zero_le _, by omega⟩, Nat.zero_add, Nat.sub_zero]
        exact g2115.ext.fld lW i
    · obtain ⟨-, z⟩ := q2126
      cases z
  · obtain ⟨-, z⟩ := q2109
    cases z
theorem C_cr (nf : Nat) (W n : Nat) (h : List zC) (u : Nat) {cap : Nat} (hN : gN h W = some cap) (hn : n ≤ cap) (hc : cap ≤ 400) : zL zrx zi nf 314 0 [(0, .ref W), (1, .int 0), (2, .int (Int32.ofNat n))] [] h u (fun o h2 _ => o = .inl (some (.ref h.length)) ∧ KP h.length h h2 ∧ gN h2 h.length = some n ∧ ∀ i, i < n → gF h2 h.length i = gF h W i) := by
  refine zSiload (m := 1) (k := 1) vr_314_0 rfl rfl rfl (fun x2130 e2130 => ?_)
  cases e2130
  refine zSb1 (f := fun x => decide (¬ x = 0)) (off := 9) (t := 10) vr_314_1 rfl rfl rfl (fun x2131 e2131 q2131 => ?_) (fun x2131 e2131 q2131 => ?_)
  · cases e2131
    have c2131 := of_decide_eq_true q2131
    refine zSaload (m := 1) (k := 0) vr_314_10 rfl rfl rfl ?_
    refine zSiload (m := 1) (k := 1) vr_314_11 rfl rfl rfl (fun x2133 e2133 => ?_)
    cases e2133
    refine zSiload (m := 1) (k := 2) vr_314_12 rfl rfl rfl (fun x2134 e2134 => ?_)
    cases e2134
    refine zScall vr_314_13 rfl rfl rfl (fun m2135 _ => C_crb _ _ _ _ _ hN hn hc) (fun v2135 h2135 u2135 q2135 => ?_) (fun E2135 h2135 u2135 q2135 => ?_)
    · obtain ⟨z2135, w1, w2, w3⟩ := q2135
      cases z2135
      show zL zrx zi _ 314 16 [(0, _), (1, _), (2, _)] [_] _ _ _
      refine zSaret vr_314_16 rfl ?_
      first
        | exact absurd rfl c2131
        | exact ⟨rfl, w1, w2, w3⟩
    · obtain ⟨z, -⟩ := q2135
      cases z
  · cases e2131
    have c2131 := ndc q2131
    refine zSiload (m := 1) (k := 2) vr_314_4 rfl rfl rfl (fun x2137 e2137 => ?_)
    cases e2137
    refine zSaload (m := 1) (k := 0) vr_314_5 rfl rfl rfl ?_
    refine zLlen vr_314_6 rfl (fun p2139 m2139 e2139 g2139 => ?_)
    cases e2139
    have en := g2139
    rw [hN] at en
    cases en
    refine zSb2 (f := fun x y => decide (x = y)) (off := 10) (t := 17) vr_314_7 rfl rfl rfl (fun x2140 y2140 e2140 f2140 q2140 => ?_) (fun x2140 y2140 e2140 f2140 q2140 => ?_)
    · cases e2140
      cases f2140
      have c2140 := of_decide_eq_true q2140
      refine zSaload (m := 1) (k := 0) vr_314_17 rfl rfl rfl ?_
      refine zLcln vr_314_18 rfl (fun p2142 l2142 k2142 u2142 e2142 n2142 c2142 g2142 => ?_)
      cases e2142
      refine zLcka vr_314_21 rfl (fun p2143 e2143 => ?_)
      cases e2143
      refine zSaret vr_314_24 rfl ?_
      have e := (on_eq (a := n) (b := cap) (by omega) (by omega)).mp c2140
      have ln := n2142
      rw [hN] at ln
      refine ⟨rfl, KP.new g2142 (Nat.le_refl _), ?_, fun i hi => ?_⟩
      · rw [g2142.cn.1, e]
        exact ln.symm
      · rw [g2142.fld]
        exact (c2142 i).symm
    · cases e2140
      cases f2140
      have c2140 := ndc q2140
      refine zSaload (m := 1) (k := 0) vr_314_10 rfl rfl rfl ?_
      refine zSiload (m := 1) (k := 1) vr_314_11 rfl rfl rfl (fun x2146 e2146 => ?_)
      cases e2146
      refine zSiload (m := 1) (k := 2) vr_314_12 rfl rfl rfl (fun x2147 e2147 => ?_)
      cases e2147
      refine zScall vr_314_13 rfl rfl rfl (fun m2148 _ => C_crb _ _ _ _ _ hN hn hc) (fun v2148 h2148 u2148 q2148 => ?_) (fun E2148 h2148 u2148 q2148 => ?_)
      · obtain ⟨z2148, w1, w2, w3⟩ := q2148
        cases z2148
        show zL zrx zi _ 314 16 [(0, _), (1, _), (2, _)] [_] _ _ _
        refine zSaret vr_314_16 rfl ?_
        first
          | exact absurd rfl c2131
          | exact ⟨rfl, w1, w2, w3⟩
      · obtain ⟨z, -⟩ := q2148
        cases z
theorem C_sgv (nf : Nat) (B : Nat) (h : List zC) (u : Nat) {m W cap n : Nat} {f : Nat → Int32} (bx : BX m h B W cap n f) : zL zrx zi nf 253 0 [(0, .ref B)] [] h u (fun o h2 _ => h2 = h ∧ o = .inl (some (.ref W))) := by
  refine zSaload (m := 1) (k := 0) vr_253_0 rfl rfl rfl ?_
  refine zLget vr_253_1 rfl (fun p2151 w2151 e2151 t2151 g2151 => ?_)
  cases e2151
  first | (rw [bx.1] at g2151; cases g2151) | skip
  refine zSaret vr_253_4 rfl ?_
  exact ⟨rfl, rfl⟩
theorem C_sln5 (nf : Nat) (B : Nat) (h : List zC) (u : Nat) {m W cap n : Nat} {f : Nat → Int32} (bx : BX m h B W cap n f) : zL zrx zi nf 245 0 [(0, .ref B)] [] h u (fun o h2 _ => h2 = h ∧ o = .inl (some (.int (Int32.ofNat n)))) := by
  refine zSaload (m := 1) (k := 0) vr_245_0 rfl rfl rfl ?_
  refine zLget vr_245_1 rfl (fun p2154 w2154 e2154 t2154 g2154 => ?_)
  cases e2154
  first | (rw [bx.2.2.1] at g2154; cases g2154) | skip
  refine zLiret vr_245_4 rfl (fun x2155 e2155 => ?_)
  cases e2155
  exact ⟨rfl, rfl⟩
theorem C_sln4 (nf : Nat) (B : Nat) (h : List zC) (u : Nat) {m W cap n : Nat} {f : Nat → Int32} (bx : BX m h B W cap n f) : zL zrx zi nf 278 0 [(0, .ref B)] [] h u (fun o h2 _ => h2 = h ∧ o = .inl (some (.int (Int32.ofNat n)))) := by
  refine zSaload (m := 1) (k := 0) vr_278_0 rfl rfl rfl ?_
  refine zScall vr_278_1 rfl rfl rfl (fun m2157 _ => C_sln5 _ _ _ _ bx) (fun v2157 h2157 u2157 q2157 => ?_) (fun E2157 h2157 u2157 q2157 => ?_)
  · obtain ⟨eh2157, z2157⟩ := q2157
    replace eh2157 := eh2157.symm
    subst eh2157
    cases z2157
    show zL zrx zi _ 278 4 [(0, _)] [_] _ _ _
    refine zLiret vr_278_4 rfl (fun x2158 e2158 => ?_)
    cases e2158
    exact ⟨rfl, rfl⟩
  · obtain ⟨-, z⟩ := q2157
    cases z
theorem C_sti (nf : Nat) (S : Nat) (h : List zC) (u : Nat) {m B W cap n : Nat} {f : Nat → Int32} (bx : BX m h B W cap n f) (hS : S < h.length) (hB : B < S) (hW : W < S) (hn : n ≤ 60) (hf : ∀ i, i < n → rI 32 126 (f i)) (s213 : 239 ≤ S) : zL zrx zi nf 267 0 [(0, .ref S), (1, .ref B), (2, .null)] [] h u (fun o h2 _ => o = .inl none ∧ KP S h h2 ∧ h2.length = h2.length ∧ SB f n S h.length h2) := by
  refine zSaload (m := 1) (k := 0) vr_267_0 rfl rfl rfl ?_
  refine zSobj vr_267_1 rfl ?_
  refine zSaload (m := 1) (k := 1) vr_267_4 rfl rfl rfl ?_
  refine zScall vr_267_5 rfl rfl rfl (fun m2162 _ => C_sgv _ _ _ _ bx) (fun v2162 h2162 u2162 q2162 => ?_) (fun E2162 h2162 u2162 q2162 => ?_)
  · obtain ⟨eh2162, z2162⟩ := q2162
    replace eh2162 := eh2162.symm
    subst eh2162
    cases z2162
    show zL zrx zi _ 267 8 [(0, _), (1, _), (2, _)] [_] _ _ _
    refine zSastore (m := 1) (k := 3) vr_267_8 rfl rfl ?_
    show zL zrx zi _ 267 9 [(3, _), (0, _), (1, _), (2, _)] [] _ _ _
    refine zSaload (m := 1) (k := 1) vr_267_9 rfl rfl rfl ?_
    refine zScall vr_267_10 rfl rfl rfl (fun m2165 _ => C_sln4 _ _ _ _ bx) (fun v2165 h2165 u2165 q2165 => ?_) (fun E2165 h2165 u2165 q2165 => ?_)
    · obtain ⟨eh2165, z2165⟩ := q2165
      replace eh2165 := eh2165.symm
      subst eh2165
      cases z2165
      show zL zrx zi _ 267 13 [(3, _), (0, _), (1, _), (2, _)] [_] _ _ _
      refine zSistore (m := 2) (k := 4) vr_267_13 rfl rfl (fun x2166 e2166 => ?_)
      cases e2166
      show zL zrx zi _ 267 15 [(4, _), (3, _), (0, _), (1, _), (2, _)] [] _ _ _
      refine zSaload (m := 1) (k := 1) vr_267_15 rfl rfl rfl ?_
      refine zScall vr_267_16 rfl rfl rfl (fun m2168 _ => C_sbl _ _ _ _ bx.2.1) (fun v2168 h2168 u2168 q2168 => ?_) (fun E2168 h2168 u2168 q2168 => ?_)
      · obtain ⟨eh2168, z2168⟩ := q2168
        replace eh2168 := eh2168.symm
        subst eh2168
        cases z2168
        show zL zrx zi _ 267 19 [(4, _), (3, _), (0, _), (1, _), (2, _)] [_] _ _ _
        refine zSb1 (f := fun x => decide (x = 0)) (off := 22) (t := 41) vr_267_19 rfl rfl rfl (fun x2169 e2169 q2169 => ?_) (fun x2169 e2169 q2169 => ?_)
        · cases e2169
          have c2169 := of_decide_eq_true q2169
          exact absurd c2169 (by decide)
        · cases e2169
          have c2169 := ndc q2169
          refine zSaload (m := 1) (k := 0) vr_267_22 rfl rfl rfl ?_
          refine zSp0 (pc' := 24) (st' := .int (0) :: _) vr_267_23 rfl rfl ?_
          refine zLput vr_267_24 rfl (fun p2172 k2172 e2172 t2172 g2172 => ?_)
          cases e2172
          have bx2 : BX m k2172 B W cap n f := by
            obtain ⟨b1, b2, b3, b4, b5, b6, b7, b8, b9, b10, b11⟩ := bx
            have kp := KP.put (m := S) g2172 (Nat.le_refl S)
            exact ⟨((kp.2 B hB).1 0).trans b1, ((kp.2 B hB).1 1).trans b2, ((kp.2 B hB).1 3).trans b3, (kp.2 W hW).2.2.trans b4, (kp.2 W hW).2.1.trans b5, b6, b7, fun i hi => ((kp.2 W hW).1 i).trans (b8 i hi), b9, b10, b11⟩
          refine zSaload (m := 1) (k := 0) vr_267_27 rfl rfl rfl ?_
          refine zSaload (m := 1) (k := 3) vr_267_28 rfl rfl rfl ?_
          refine zSp0 (pc' := 30) (st' := .int (0) :: _) vr_267_29 rfl rfl ?_
          refine zSiload (m := 2) (k := 4) vr_267_30 rfl rfl rfl (fun x2176 e2176 => ?_)
          cases e2176
          refine zScall vr_267_32 rfl rfl rfl (fun m2177 _ => C_cr _ _ _ _ _ bx2.2.2.2.1 bx2.2.2.2.2.2.1 bx2.2.2.2.2.2.2.1) (fun v2177 h2177 u2177 q2177 => ?_) (fun E2177 h2177 u2177 q2177 => ?_)
          · obtain ⟨z2177, w1, w2, w3⟩ := q2177
            cases z2177
            show zL zrx zi _ 267 35 [(4, _), (3, _), (0, _), (1, _), (2, _)] [_, _] _ _ _
            refine zLput vr_267_35 rfl (fun p2178 k2178 e2178 t2178 g2178 => ?_)
            cases e2178
            refine zSgo (t := 97) vr_267_38 rfl rfl ?_
            refine zSvoid vr_267_97 rfl ?_
            have l := g2172.1
            obtain ⟨b1, b2, b3, b4, b5, b6, b7, b8, b9, b10, b11⟩ := bx2
            have ln := w1.1
            have fr : ∀ x k, x < k2172.length → ¬ (x = S ∧ k = 0) → gF k2178 x k = gF k2172 x k := fun x k hx n1 => by
              rw [g2178.2.1, if_neg n1, (w1.2 x hx).1 k]
            refine ⟨rfl, (KP.put g2172 (Nat.le_refl S)).trans (⟨by rw [g2178.1]; exact ln, fun x hx => ⟨fun k => fr x k (by omega) (by omega), by rw [g2178.2.2.1]; exact (w1.2 x (by omega)).2.1, by rw [g2178.2.2.2]; exact (w1.2 x (by omega)).2.2⟩⟩), rfl, ?_, ?_, ?_, hn, fun i hi => ⟨?_, hf i hi⟩, by omega, by omega⟩
            · rw [g2178.2.1, if_pos ⟨rfl, rfl⟩, l]
            · rw [fr S 1 (by omega) (by omega), g2172.2.1, if_pos ⟨rfl, rfl⟩]
            · rw [g2178.2.2.2, ← l]
              exact w2
            · rw [g2178.2.1, if_neg (by omega), ← l, w3 i hi]
              exact b8 i hi
          · obtain ⟨z, -⟩ := q2177
            cases z
      · obtain ⟨-, z⟩ := q2168
        cases z
    · obtain ⟨-, z⟩ := q2165
      cases z
  · obtain ⟨-, z⟩ := q2162
    cases z
theorem C_sti0 (nf : Nat) (S : Nat) (h : List zC) (u : Nat) {m B W cap n : Nat} {f : Nat → Int32} (bx : BX m h B W cap n f) (hS : S < h.length) (hB : B < S) (hW : W < S) (hn : n ≤ 60) (hf : ∀ i, i < n → rI 32 126 (f i)) (s213 : 239 ≤ S) : zL zrx zi nf 263 0 [(0, .ref S), (1, .ref B)] [] h u (fun o h2 _ => o = .inl none ∧ KP S h h2 ∧ h2.length = h2.length ∧ SB f n S h.length h2) := by
  refine zSaload (m := 1) (k := 0) vr_263_0 rfl rfl rfl ?_
  refine zSaload (m := 1) (k := 1) vr_263_1 rfl rfl rfl ?_
  refine zSp0 vr_263_2 rfl rfl ?_
  refine zScall vr_263_3 rfl rfl rfl (fun m2184 _ => C_sti _ _ _ _ bx hS hB hW hn hf s213) (fun v2184 h2184 u2184 q2184 => ?_) (fun E2184 h2184 u2184 q2184 => ?_)
  · obtain ⟨z2184, w1⟩ := q2184
    cases z2184
    show zL zrx zi _ 263 6 [(0, _), (1, _)] [] _ _ _
    refine zSvoid vr_263_6 rfl ?_
    exact ⟨rfl, w1⟩
  · obtain ⟨z, -⟩ := q2184
    cases z
theorem C_tos (nf : Nat)  (h : List zC) (u : Nat) {m B W cap n : Nat} {f : Nat → Int32} (bx : BX m h B W cap n f) (hB : B < h.length) (hW : W < h.length) (hn : n ≤ 60) (hf : ∀ i, i < n → rI 32 126 (f i)) (h239 : 239 ≤ h.length) : zL zrx zi nf 277 0 [(0, .ref B)] [] h u (fun o h2 _ => ∃ b : Nat, o = .inl (some (.ref h.length)) ∧ KP h.length h h2 ∧ SB f n h.length b h2 ∧ h.length < b) := by
  refine zLnew2 vr_277_0 rfl (fun k2186 u2186 g2186 => ?_)
  refine zSdup vr_277_3 rfl ?_
  refine zSaload (m := 1) (k := 0) vr_277_4 rfl rfl rfl ?_
  have l := g2186.len
  have bxn := bx.kp (KP.new g2186 (Nat.le_refl _)) hB hW
  refine zScall vr_277_5 rfl rfl rfl (fun m2189 _ => C_sti0 _ _ _ _ bxn (by omega) hB hW hn hf h239) (fun v2189 h2189 u2189 q2189 => ?_) (fun E2189 h2189 u2189 q2189 => ?_)
  · obtain ⟨z2189, w1, -, w3⟩ := q2189
    cases z2189
    show zL zrx zi _ 277 8 [(0, _)] [_] _ _ _
    refine zSaret vr_277_8 rfl ?_
    exact ⟨_, rfl, (KP.new g2186 (Nat.le_refl _)).trans w1, w3, by rw [g2186.len]; omega⟩
  · obtain ⟨z, -⟩ := q2189
    cases z
abbrev Q_mfeed (T : Nat → Int32) (L : Nat) (c : Int32) (h : List zC) : zK := fun o h2 _ => ∃ x : Int32, o = .inl (some (.int x)) ∧ ((¬ rI 32 126 c ∧ x = 0 ∧ FD213 h h2 1) ∨ (rI 32 126 c ∧ L = 60 ∧ x = 0 ∧ FD213 h h2 2) ∨ (rI 32 126 c ∧ L < 60 ∧ x = Int32.ofNat (L + 1) ∧ gF h2 213 0 = some (.int 0) ∧ (∃ s2 b2 : Nat, SB (fun i => if i = L then c else T i) (L + 1) s2 b2 h2 ∧ gF h2 213 10 = some (.ref s2) ∧ h.length ≤ s2 ∧ h.length ≤ b2) ∧ h.length ≤ h2.length ∧ (∀ x k, x < h.length → ¬ (x = 213 ∧ (k = 0 ∨ k = 10)) → gF h2 x k = gF h x k) ∧ ∀ x, x < h.length → gT h2 x = gT h x ∧ gN h2 x = gN h x))
theorem C_mfeed (nf : Nat) (c : Int32) (h : List zC) (u : Nat) {T : Nat → Int32} {L s b : Nat} (h0 : 239 ≤ h.length) (sb : SB T L s b h) (e10 : gF h 213 10 = some (.ref s)) : zL zrx zi nf 160 0 [(0, .ref 213), (1, .int c)] [] h u (Q_mfeed T L c h) := by
  refine zSaload (m := 1) (k := 0) vr_160_0 rfl rfl rfl ?_
  refine zSp0 (pc' := 2) (st' := .int (0) :: _) vr_160_1 rfl rfl ?_
  refine zLput vr_160_2 rfl (fun p2193 k2193 e2193 t2193 g2193 => ?_)
  cases e2193
  refine zSiload (m := 1) (k := 1) vr_160_5 rfl rfl rfl (fun x2194 e2194 => ?_)
  cases e2194
  refine zSp0 (pc' := 8) (st' := .int (32) :: _) vr_160_6 rfl rfl ?_
  refine zSb2 (f := fun x y => decide (x < y)) (off := 9) (t := 17) vr_160_8 rfl rfl rfl (fun x2196 y2196 e2196 f2196 q2196 => ?_) (fun x2196 y2196 e2196 f2196 q2196 => ?_)
  · cases e2196
    cases f2196
    have c2196 := of_decide_eq_true q2196
    refine zSaload (m := 1) (k := 0) vr_160_17 rfl rfl rfl ?_
    refine zSp0 (pc' := 19) (st' := .int (1) :: _) vr_160_18 rfl rfl ?_
    refine zScall vr_160_19 rfl rfl rfl (fun m2199 _ => C_no _ 213 _ _ _) (fun v2199 h2199 u2199 q2199 => ?_) (fun E2199 h2199 u2199 q2199 => ?_)
    · obtain ⟨w2199, z2199⟩ := q2199
      cases z2199
      show zL zrx zi _ 160 22 [(0, _), (1, _)] [_] _ _ _
      refine zLiret vr_160_22 rfl (fun x2200 e2200 => ?_)
      cases e2200
      refine ⟨_, rfl, Or.inl ⟨fun hc => ?_, rfl, FD213.mk2 g2193 w2199⟩⟩
      have z1 : (32 : Int32).toInt = 32 := rfl
      have z2 : (126 : Int32).toInt = 126 := rfl
      obtain ⟨hc1, hc2⟩ := hc
      first
        | (have y := c2196
           rw [i32_lt] at y
           omega)
        | (have y := c2117
           rw [i32_le] at y
           omega)
    · obtain ⟨-, z⟩ := q2199
      cases z
  · cases e2196
    cases f2196
    have c2196 := ndc q2196
    refine zSiload (m := 1) (k := 1) vr_160_11 rfl rfl rfl (fun x2201 e2201 => ?_)
    cases e2201
    refine zSp0 (pc' := 14) (st' := .int (126) :: _) vr_160_12 rfl rfl ?_
    refine zSb2 (f := fun x y => decide (x ≤ y)) (off := 9) (t := 23) vr_160_14 rfl rfl rfl (fun x2203 y2203 e2203 f2203 q2203 => ?_) (fun x2203 y2203 e2203 f2203 q2203 => ?_)
    · cases e2203
      cases f2203
      have c2203 := of_decide_eq_true q2203
      have hc : rI 32 126 c := by
        have y1 := c2196
        have y2 := c2203
        rw [i32_lt] at y1
        rw [i32_le] at y2
        exact ⟨by omega, y2⟩
      have e10b : gF k2193 213 10 = some (.ref s) := by
        rw [g2193.2.1, if_neg (by omega)]
        exact e10
      have sb2 := sb.same (fun x k n => by rw [g2193.2.1, if_neg (fun w => n w.1)]) (g2193.2.2.2 b)
      refine zSaload (m := 1) (k := 0) vr_160_23 rfl rfl rfl ?_
      refine zLget vr_160_24 rfl (fun p2205 w2205 e2205 t2205 g2205 => ?_)
      cases e2205
      first | (rw [e10] at g2205; cases g2205) | (rw [e10b] at g2205; cases g2205) | (rw [e10c] at g2205; cases g2205) | skip
      refine zScall vr_160_27 rfl rfl rfl (fun m2206 _ => C_slen _ _ _ _ sb2) (fun v2206 h2206 u2206 q2206 => ?_) (fun E2206 h2206 u2206 q2206 => ?_)
      · obtain ⟨eh2206, z2206⟩ := q2206
        replace eh2206 := eh2206.symm
        subst eh2206
        cases z2206
        show zL zrx zi _ 160 30 [(0, _), (1, _)] [_] _ _ _
        refine zSp0 (pc' := 32) (st' := .int (60) :: _) vr_160_30 rfl rfl ?_
        refine zSb2 (f := fun x y => decide (¬ x = y)) (off := 9) (t := 41) vr_160_32 rfl rfl rfl (fun x2208 y2208 e2208 f2208 q2208 => ?_) (fun x2208 y2208 e2208 f2208 q2208 => ?_)
        · cases e2208
          cases f2208
          have c2208 := of_decide_eq_true q2208
          have l60 : L < 60 := by
            have y := c2208
            have := sb.l60
            have ne : ¬ L = 60 := fun z => y (by rw [z]; rfl)
            omega
          have ls := gF_lt sb.1
          have lb := gN_lt sb.2.2.1
          have lk := g2193.1
          refine zSaload (m := 1) (k := 0) vr_160_41 rfl rfl rfl ?_
          refine zLnew2 vr_160_42 rfl (fun k2210 u2210 g2210 => ?_)
          refine zSdup vr_160_45 rfl ?_
          have ln := g2210.len
          have b3 : gF k2210 k2193.length 3 = some (.int 0) := by
            rw [g2210.fld]
            exact zDef0.2
          refine zScall vr_160_46 rfl rfl rfl (fun m2212 _ => C_sbn _ _ _ _ (by omega) b3) (fun v2212 h2212 u2212 q2212 => ?_) (fun E2212 h2212 u2212 q2212 => ?_)
          · obtain ⟨z2212, w1, bx1⟩ := q2212
            cases z2212
            show zL zrx zi _ 160 49 [(0, _), (1, _)] [_, _] _ _ _
            refine zSaload (m := 1) (k := 0) vr_160_49 rfl rfl rfl ?_
            have kp1 := (KP.new g2210 (Nat.le_refl _)).trans w1
            have e10c : gF h2212 213 10 = some (.ref s) := ((kp1.2 213 (by omega)).1 10).trans e10b
            have sb3 := sb2.kp kp1 (by omega) (by omega)
            refine zLget vr_160_50 rfl (fun p2214 w2214 e2214 t2214 g2214 => ?_)
            cases e2214
            first | (rw [e10] at g2214; cases g2214) | (rw [e10b] at g2214; cases g2214) | (rw [e10c] at g2214; cases g2214) | skip
            refine zScall vr_160_53 rfl rfl rfl (fun m2215 _ => C_app4 _ _ _ _ _ bx1 sb3 (by omega) (by omega)) (fun v2215 h2215 u2215 q2215 => ?_) (fun E2215 h2215 u2215 q2215 => ?_)
            · obtain ⟨z2215, w2, W2, cap2, bx2⟩ := q2215
              cases z2215
              show zL zrx zi _ 160 56 [(0, _), (1, _)] [_, _] _ _ _
              refine zSiload (m := 1) (k := 1) vr_160_56 rfl rfl rfl (fun x2216 e2216 => ?_)
              cases e2216
              refine zS1 (f := fun x => .int (x.toUInt32 % 65536).toInt32) vr_160_57 rfl rfl (fun x2217 e2217 => ?_)
              cases e2217
              rw [(ch_of hc).2]
              refine zScall vr_160_58 rfl rfl rfl (fun m2218 _ => C_apc4 _ _ _ _ _ bx2 (by omega) hc) (fun v2218 h2218 u2218 q2218 => ?_) (fun E2218 h2218 u2218 q2218 => ?_)
              · obtain ⟨z2218, w4, W4, cap4, bx4⟩ := q2218
                cases z2218
                show zL zrx zi _ 160 61 [(0, _), (1, _)] [_, _] _ _ _
                refine zScall vr_160_61 rfl rfl rfl (fun m2219 _ => C_tos _ _ _ bx4 (gF_lt bx4.1) (gN_lt bx4.2.2.2.1) (by omega) (hf_of sb.2.2.2.2.1 hc) (by have := w1.1; have := w2.1; have := w4.1; omega)) (fun v2219 h2219 u2219 q2219 => ?_) (fun E2219 h2219 u2219 q2219 => ?_)
                · obtain ⟨b5, z2219, w5, w6, lb5⟩ := q2219
                  cases z2219
                  show zL zrx zi _ 160 64 [(0, _), (1, _)] [_, _] _ _ _
                  refine zLput vr_160_64 rfl (fun p2220 k2220 e2220 t2220 g2220 => ?_)
                  cases e2220
                  have e10d : gF k2220 213 10 = _ := (g2220.2.1 213 10).trans (if_pos ⟨rfl, rfl⟩)
                  have sb5 := w6.same (fun x k n => by rw [g2220.2.1, if_neg (fun w => n w.1)]) (g2220.2.2.2 _)
                  refine zSaload (m := 1) (k := 0) vr_160_67 rfl rfl rfl ?_
                  refine zLget vr_160_68 rfl (fun p2222 w2222 e2222 t2222 g2222 => ?_)
                  cases e2222
                  first | (rw [e10d] at g2222; cases g2222) | skip
                  refine zScall vr_160_71 rfl rfl rfl (fun m2223 _ => C_slen _ _ _ _ sb5) (fun v2223 h2223 u2223 q2223 => ?_) (fun E2223 h2223 u2223 q2223 => ?_)
                  · obtain ⟨eh2223, z2223⟩ := q2223
                    replace eh2223 := eh2223.symm
                    subst eh2223
                    cases z2223
                    show zL zrx zi _ 160 74 [(0, _), (1, _)] [_] _ _ _
                    refine zLiret vr_160_74 rfl (fun x2224 e2224 => ?_)
                    cases e2224
                    have q1 := w1.1
                    have q2 := w2.1
                    have q4 := w4.1
                    have kp := ((kp1.trans (w2.mono (by omega))).trans w4).trans (w5.mono (by omega))
                    have old : ∀ x k, x < h.length → ¬ (x = 213 ∧ (k = 0 ∨ k = 10)) → gF k2220 x k = gF h x k := fun x k hx n => by
                      rw [g2220.2.1, if_neg (by omega), (kp.2 x (by omega)).1 k, g2193.2.1, if_neg (by omega)]
                    refine ⟨_, rfl, Or.inr (Or.inr ⟨hc, l60, rfl, ?_, ⟨_, _, sb5, e10d, ?_, ?_⟩, ?_, old, fun x hx => ?_⟩)⟩
                    · rw [g2220.2.1, if_neg (by omega), (kp.2 213 (by omega)).1 0, g2193.2.1, if_pos ⟨rfl, rfl⟩]
                    · have := w2.1
                      have := w4.1
                      have := w1.1
                      omega
                    · have := w2.1
                      have := w4.1
                      have := w1.1
                      omega
                    · have := kp.1
                      rw [g2220.1]
                      omega
                    · rw [g2220.2.2.1, g2220.2.2.2, (kp.2 x (by omega)).2.1, (kp.2 x (by omega)).2.2]
                      exact ⟨g2193.2.2.1 x, g2193.2.2.2 x⟩
                  · obtain ⟨-, z⟩ := q2223
                    cases z
                · obtain ⟨_, z, -⟩ := q2219
                  cases z
              · obtain ⟨z, -⟩ := q2218
                cases z
            · obtain ⟨z, -⟩ := q2215
              cases z
          · obtain ⟨z, -⟩ := q2212
            cases z
        · cases e2208
          cases f2208
          have c2208 := ndc q2208
          refine zSaload (m := 1) (k := 0) vr_160_35 rfl rfl rfl ?_
          refine zSp0 (pc' := 37) (st' := .int (2) :: _) vr_160_36 rfl rfl ?_
          refine zScall vr_160_37 rfl rfl rfl (fun m2227 _ => C_no _ 213 _ _ _) (fun v2227 h2227 u2227 q2227 => ?_) (fun E2227 h2227 u2227 q2227 => ?_)
          · obtain ⟨w2227, z2227⟩ := q2227
            cases z2227
            show zL zrx zi _ 160 40 [(0, _), (1, _)] [_] _ _ _
            refine zLiret vr_160_40 rfl (fun x2228 e2228 => ?_)
            cases e2228
            have e60 : L = 60 := (on_eq (a := L) (b := 60) (by have := sb.l60; omega) (by omega)).mp (Decidable.not_not.mp c2208)
            exact ⟨_, rfl, Or.inr (Or.inl ⟨hc, e60, rfl, FD213.mk2 g2193 w2227⟩)⟩
          · obtain ⟨-, z⟩ := q2227
            cases z
      · obtain ⟨-, z⟩ := q2206
        cases z
    · cases e2203
      cases f2203
      have c2203 := ndc q2203
      refine zSaload (m := 1) (k := 0) vr_160_17 rfl rfl rfl ?_
      refine zSp0 (pc' := 19) (st' := .int (1) :: _) vr_160_18 rfl rfl ?_
      refine zScall vr_160_19 rfl rfl rfl (fun m2231 _ => C_no _ 213 _ _ _) (fun v2231 h2231 u2231 q2231 => ?_) (fun E2231 h2231 u2231 q2231 => ?_)
      · obtain ⟨w2231, z2231⟩ := q2231
        cases z2231
        show zL zrx zi _ 160 22 [(0, _), (1, _)] [_] _ _ _
        refine zLiret vr_160_22 rfl (fun x2232 e2232 => ?_)
        cases e2232
        refine ⟨_, rfl, Or.inl ⟨fun hc => ?_, rfl, FD213.mk2 g2193 w2231⟩⟩
        have z1 : (32 : Int32).toInt = 32 := rfl
        have z2 : (126 : Int32).toInt = 126 := rfl
        obtain ⟨hc1, hc2⟩ := hc
        first
          | (have y := c2196
             rw [i32_lt] at y
             omega)
          | (have y := c2203
             rw [i32_le] at y
             omega)
      · obtain ⟨-, z⟩ := q2231
        cases z

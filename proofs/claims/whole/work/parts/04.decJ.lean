theorem dObj_init_0 : decode object_method_1_code 0 = .ok (.return_, 1) := by decide +kernel
theorem dStr_indexOf1_0 : decode prog_10_method_79_code 0 = .ok (.aload_n 0, 1) := by decide +kernel
theorem dStr_indexOf1_1 : decode prog_10_method_79_code 1 = .ok (.iload_n 1, 1) := by decide +kernel
theorem dStr_indexOf1_2 : decode prog_10_method_79_code 2 = .ok (.iconst 0, 1) := by decide +kernel
theorem dStr_indexOf1_3 : decode prog_10_method_79_code 3 = .ok (.invokevirtual 633, 3) := by decide +kernel
theorem dStr_indexOf1_6 : decode prog_10_method_79_code 6 = .ok (.ireturn, 1) := by decide +kernel
theorem dStr_indexOf2_0 : decode prog_10_method_80_code 0 = .ok (.aload_n 0, 1) := by decide +kernel
theorem dStr_indexOf2_1 : decode prog_10_method_80_code 1 = .ok (.invokevirtual 492, 3) := by decide +kernel
theorem dStr_indexOf2_4 : decode prog_10_method_80_code 4 = .ok (.ifCond .eq 19, 3) := by decide +kernel
theorem dStr_indexOf2_7 : decode prog_10_method_80_code 7 = .ok (.aload_n 0, 1) := by decide +kernel
theorem dStr_indexOf2_8 : decode prog_10_method_80_code 8 = .ok (.getfield 9, 3) := by decide +kernel
theorem dStr_indexOf2_11 : decode prog_10_method_80_code 11 = .ok (.iload_n 1, 1) := by decide +kernel
theorem dStr_indexOf2_12 : decode prog_10_method_80_code 12 = .ok (.iload_n 2, 1) := by decide +kernel
theorem dStr_indexOf2_13 : decode prog_10_method_80_code 13 = .ok (.aload_n 0, 1) := by decide +kernel
theorem dStr_indexOf2_14 : decode prog_10_method_80_code 14 = .ok (.invokevirtual 505, 3) := by decide +kernel
theorem dStr_indexOf2_17 : decode prog_10_method_80_code 17 = .ok (.invokestatic 637, 3) := by decide +kernel
theorem dStr_indexOf2_20 : decode prog_10_method_80_code 20 = .ok (.goto 16, 3) := by decide +kernel
theorem dStr_indexOf2_23 : decode prog_10_method_80_code 23 = .ok (.aload_n 0, 1) := by decide +kernel
theorem dStr_indexOf2_24 : decode prog_10_method_80_code 24 = .ok (.getfield 9, 3) := by decide +kernel
theorem dStr_indexOf2_27 : decode prog_10_method_80_code 27 = .ok (.iload_n 1, 1) := by decide +kernel
theorem dStr_indexOf2_28 : decode prog_10_method_80_code 28 = .ok (.iload_n 2, 1) := by decide +kernel
theorem dStr_indexOf2_29 : decode prog_10_method_80_code 29 = .ok (.aload_n 0, 1) := by decide +kernel
theorem dStr_indexOf2_30 : decode prog_10_method_80_code 30 = .ok (.invokevirtual 505, 3) := by decide +kernel
theorem dStr_indexOf2_33 : decode prog_10_method_80_code 33 = .ok (.invokestatic 640, 3) := by decide +kernel
theorem dStr_indexOf2_36 : decode prog_10_method_80_code 36 = .ok (.ireturn, 1) := by decide +kernel
theorem dStr_isLatin1_0 : decode prog_10_method_154_code 0 = .ok (.getstatic 38, 3) := by decide +kernel
theorem dStr_isLatin1_3 : decode prog_10_method_154_code 3 = .ok (.ifCond .eq 14, 3) := by decide +kernel
theorem dStr_isLatin1_6 : decode prog_10_method_154_code 6 = .ok (.aload_n 0, 1) := by decide +kernel
theorem dStr_isLatin1_7 : decode prog_10_method_154_code 7 = .ok (.getfield 15, 3) := by decide +kernel
theorem dStr_isLatin1_10 : decode prog_10_method_154_code 10 = .ok (.ifCond .ne 7, 3) := by decide +kernel
theorem dStr_isLatin1_13 : decode prog_10_method_154_code 13 = .ok (.iconst 1, 1) := by decide +kernel
theorem dStr_isLatin1_14 : decode prog_10_method_154_code 14 = .ok (.goto 4, 3) := by decide +kernel
theorem dStr_isLatin1_17 : decode prog_10_method_154_code 17 = .ok (.iconst 0, 1) := by decide +kernel
theorem dStr_isLatin1_18 : decode prog_10_method_154_code 18 = .ok (.ireturn, 1) := by decide +kernel
theorem dStr_length_0 : decode prog_10_method_54_code 0 = .ok (.aload_n 0, 1) := by decide +kernel
theorem dStr_length_1 : decode prog_10_method_54_code 1 = .ok (.getfield 9, 3) := by decide +kernel
theorem dStr_length_4 : decode prog_10_method_54_code 4 = .ok (.arraylength, 1) := by decide +kernel
theorem dStr_length_5 : decode prog_10_method_54_code 5 = .ok (.aload_n 0, 1) := by decide +kernel
theorem dStr_length_6 : decode prog_10_method_54_code 6 = .ok (.invokevirtual 335, 3) := by decide +kernel
theorem dStr_length_9 : decode prog_10_method_54_code 9 = .ok (.ishr, 1) := by decide +kernel
theorem dStr_length_10 : decode prog_10_method_54_code 10 = .ok (.ireturn, 1) := by decide +kernel
theorem dStr_coder_0 : decode prog_10_method_152_code 0 = .ok (.getstatic 38, 3) := by decide +kernel
theorem dStr_coder_3 : decode prog_10_method_152_code 3 = .ok (.ifCond .eq 10, 3) := by decide +kernel
theorem dStr_coder_6 : decode prog_10_method_152_code 6 = .ok (.aload_n 0, 1) := by decide +kernel
theorem dStr_coder_7 : decode prog_10_method_152_code 7 = .ok (.getfield 15, 3) := by decide +kernel
theorem dStr_coder_10 : decode prog_10_method_152_code 10 = .ok (.goto 4, 3) := by decide +kernel
theorem dStr_coder_13 : decode prog_10_method_152_code 13 = .ok (.iconst 1, 1) := by decide +kernel
theorem dStr_coder_14 : decode prog_10_method_152_code 14 = .ok (.ireturn, 1) := by decide +kernel
theorem dLat_indexOf_0 : decode prog_11_method_22_code 0 = .ok (.iload_n 1, 1) := by decide +kernel
theorem dLat_indexOf_1 : decode prog_11_method_22_code 1 = .ok (.invokestatic 88, 3) := by decide +kernel
theorem dLat_indexOf_4 : decode prog_11_method_22_code 4 = .ok (.ifCond .ne 5, 3) := by decide +kernel
theorem dLat_indexOf_7 : decode prog_11_method_22_code 7 = .ok (.iconst (-1), 1) := by decide +kernel
theorem dLat_indexOf_8 : decode prog_11_method_22_code 8 = .ok (.ireturn, 1) := by decide +kernel
theorem dLat_indexOf_9 : decode prog_11_method_22_code 9 = .ok (.iload_n 2, 1) := by decide +kernel
theorem dLat_indexOf_10 : decode prog_11_method_22_code 10 = .ok (.iconst 0, 1) := by decide +kernel
theorem dLat_indexOf_11 : decode prog_11_method_22_code 11 = .ok (.invokestatic 92, 3) := by decide +kernel
theorem dLat_indexOf_14 : decode prog_11_method_22_code 14 = .ok (.istore_n 2, 1) := by decide +kernel
theorem dLat_indexOf_15 : decode prog_11_method_22_code 15 = .ok (.iload_n 3, 1) := by decide +kernel
theorem dLat_indexOf_16 : decode prog_11_method_22_code 16 = .ok (.aload_n 0, 1) := by decide +kernel
theorem dLat_indexOf_17 : decode prog_11_method_22_code 17 = .ok (.arraylength, 1) := by decide +kernel
theorem dLat_indexOf_18 : decode prog_11_method_22_code 18 = .ok (.invokestatic 38, 3) := by decide +kernel
theorem dLat_indexOf_21 : decode prog_11_method_22_code 21 = .ok (.istore_n 3, 1) := by decide +kernel
theorem dLat_indexOf_22 : decode prog_11_method_22_code 22 = .ok (.iload_n 2, 1) := by decide +kernel
theorem dLat_indexOf_23 : decode prog_11_method_22_code 23 = .ok (.iload_n 3, 1) := by decide +kernel
theorem dLat_indexOf_24 : decode prog_11_method_22_code 24 = .ok (.if_icmp .lt 5, 3) := by decide +kernel
theorem dLat_indexOf_27 : decode prog_11_method_22_code 27 = .ok (.iconst (-1), 1) := by decide +kernel
theorem dLat_indexOf_28 : decode prog_11_method_22_code 28 = .ok (.ireturn, 1) := by decide +kernel
theorem dLat_indexOf_29 : decode prog_11_method_22_code 29 = .ok (.aload_n 0, 1) := by decide +kernel
theorem dLat_indexOf_30 : decode prog_11_method_22_code 30 = .ok (.iload_n 1, 1) := by decide +kernel
theorem dLat_indexOf_31 : decode prog_11_method_22_code 31 = .ok (.iload_n 2, 1) := by decide +kernel
theorem dLat_indexOf_32 : decode prog_11_method_22_code 32 = .ok (.iload_n 3, 1) := by decide +kernel
theorem dLat_indexOf_33 : decode prog_11_method_22_code 33 = .ok (.invokestatic 95, 3) := by decide +kernel
theorem dLat_indexOf_36 : decode prog_11_method_22_code 36 = .ok (.ireturn, 1) := by decide +kernel
theorem dLat_canEncode_0 : decode prog_11_method_4_code 0 = .ok (.iload_n 0, 1) := by decide +kernel
theorem dLat_canEncode_1 : decode prog_11_method_4_code 1 = .ok (.ifCond .lt 14, 3) := by decide +kernel
theorem dLat_canEncode_4 : decode prog_11_method_4_code 4 = .ok (.iload_n 0, 1) := by decide +kernel
theorem dLat_canEncode_5 : decode prog_11_method_4_code 5 = .ok (.sipush 255, 3) := by decide +kernel
theorem dLat_canEncode_8 : decode prog_11_method_4_code 8 = .ok (.if_icmp .gt 7, 3) := by decide +kernel
theorem dLat_canEncode_11 : decode prog_11_method_4_code 11 = .ok (.iconst 1, 1) := by decide +kernel
theorem dLat_canEncode_12 : decode prog_11_method_4_code 12 = .ok (.goto 4, 3) := by decide +kernel
theorem dLat_canEncode_15 : decode prog_11_method_4_code 15 = .ok (.iconst 0, 1) := by decide +kernel
theorem dLat_canEncode_16 : decode prog_11_method_4_code 16 = .ok (.ireturn, 1) := by decide +kernel
theorem dMath_max_0 : decode prog_8_method_65_code 0 = .ok (.iload_n 0, 1) := by decide +kernel
theorem dMath_max_1 : decode prog_8_method_65_code 1 = .ok (.iload_n 1, 1) := by decide +kernel
theorem dMath_max_2 : decode prog_8_method_65_code 2 = .ok (.if_icmp .lt 7, 3) := by decide +kernel
theorem dMath_max_5 : decode prog_8_method_65_code 5 = .ok (.iload_n 0, 1) := by decide +kernel
theorem dMath_max_6 : decode prog_8_method_65_code 6 = .ok (.goto 4, 3) := by decide +kernel
theorem dMath_max_9 : decode prog_8_method_65_code 9 = .ok (.iload_n 1, 1) := by decide +kernel
theorem dMath_max_10 : decode prog_8_method_65_code 10 = .ok (.ireturn, 1) := by decide +kernel
theorem dMath_min_0 : decode prog_8_method_69_code 0 = .ok (.iload_n 0, 1) := by decide +kernel
theorem dMath_min_1 : decode prog_8_method_69_code 1 = .ok (.iload_n 1, 1) := by decide +kernel
theorem dMath_min_2 : decode prog_8_method_69_code 2 = .ok (.if_icmp .gt 7, 3) := by decide +kernel
theorem dMath_min_5 : decode prog_8_method_69_code 5 = .ok (.iload_n 0, 1) := by decide +kernel
theorem dMath_min_6 : decode prog_8_method_69_code 6 = .ok (.goto 4, 3) := by decide +kernel
theorem dMath_min_9 : decode prog_8_method_69_code 9 = .ok (.iload_n 1, 1) := by decide +kernel
theorem dMath_min_10 : decode prog_8_method_69_code 10 = .ok (.ireturn, 1) := by decide +kernel
theorem dLat_indexOfChar_0 : decode prog_11_method_23_code 0 = .ok (.iload_n 1, 1) := by decide +kernel
theorem dLat_indexOfChar_1 : decode prog_11_method_23_code 1 = .ok (.i2b, 1) := by decide +kernel
theorem dLat_indexOfChar_2 : decode prog_11_method_23_code 2 = .ok (.istore 4, 2) := by decide +kernel
theorem dLat_indexOfChar_4 : decode prog_11_method_23_code 4 = .ok (.iload_n 2, 1) := by decide +kernel
theorem dLat_indexOfChar_5 : decode prog_11_method_23_code 5 = .ok (.istore 5, 2) := by decide +kernel
theorem dLat_indexOfChar_7 : decode prog_11_method_23_code 7 = .ok (.iload 5, 2) := by decide +kernel
theorem dLat_indexOfChar_9 : decode prog_11_method_23_code 9 = .ok (.iload_n 3, 1) := by decide +kernel
theorem dLat_indexOfChar_10 : decode prog_11_method_23_code 10 = .ok (.if_icmp .ge 21, 3) := by decide +kernel
theorem dLat_indexOfChar_13 : decode prog_11_method_23_code 13 = .ok (.aload_n 0, 1) := by decide +kernel
theorem dLat_indexOfChar_14 : decode prog_11_method_23_code 14 = .ok (.iload 5, 2) := by decide +kernel
theorem dLat_indexOfChar_16 : decode prog_11_method_23_code 16 = .ok (.baload, 1) := by decide +kernel
theorem dLat_indexOfChar_17 : decode prog_11_method_23_code 17 = .ok (.iload 4, 2) := by decide +kernel
theorem dLat_indexOfChar_19 : decode prog_11_method_23_code 19 = .ok (.if_icmp .ne 6, 3) := by decide +kernel
theorem dLat_indexOfChar_22 : decode prog_11_method_23_code 22 = .ok (.iload 5, 2) := by decide +kernel
theorem dLat_indexOfChar_24 : decode prog_11_method_23_code 24 = .ok (.ireturn, 1) := by decide +kernel
theorem dLat_indexOfChar_25 : decode prog_11_method_23_code 25 = .ok (.iinc 5 1, 3) := by decide +kernel
theorem dLat_indexOfChar_28 : decode prog_11_method_23_code 28 = .ok (.goto (-21), 3) := by decide +kernel
theorem dLat_indexOfChar_31 : decode prog_11_method_23_code 31 = .ok (.iconst (-1), 1) := by decide +kernel
theorem dLat_indexOfChar_32 : decode prog_11_method_23_code 32 = .ok (.ireturn, 1) := by decide +kernel
theorem dThr_init0_0 : decode prog_13_method_1_code 0 = .ok (.aload_n 0, 1) := by decide +kernel
theorem dThr_init0_1 : decode prog_13_method_1_code 1 = .ok (.invokespecial 1, 3) := by decide +kernel
theorem dThr_init0_4 : decode prog_13_method_1_code 4 = .ok (.aload_n 0, 1) := by decide +kernel
theorem dThr_init0_5 : decode prog_13_method_1_code 5 = .ok (.aload_n 0, 1) := by decide +kernel
theorem dThr_init0_6 : decode prog_13_method_1_code 6 = .ok (.putfield 7, 3) := by decide +kernel
theorem dThr_init0_9 : decode prog_13_method_1_code 9 = .ok (.aload_n 0, 1) := by decide +kernel
theorem dThr_init0_10 : decode prog_13_method_1_code 10 = .ok (.getstatic 13, 3) := by decide +kernel
theorem dThr_init0_13 : decode prog_13_method_1_code 13 = .ok (.putfield 17, 3) := by decide +kernel
theorem dThr_init0_16 : decode prog_13_method_1_code 16 = .ok (.aload_n 0, 1) := by decide +kernel
theorem dThr_init0_17 : decode prog_13_method_1_code 17 = .ok (.getstatic 20, 3) := by decide +kernel
theorem dThr_init0_20 : decode prog_13_method_1_code 20 = .ok (.putfield 24, 3) := by decide +kernel
theorem dThr_init0_23 : decode prog_13_method_1_code 23 = .ok (.aload_n 0, 1) := by decide +kernel
theorem dThr_init0_24 : decode prog_13_method_1_code 24 = .ok (.invokevirtual 27, 3) := by decide +kernel
theorem dThr_init0_27 : decode prog_13_method_1_code 27 = .ok (.pop, 1) := by decide +kernel
theorem dThr_init0_28 : decode prog_13_method_1_code 28 = .ok (.return_, 1) := by decide +kernel
theorem dThr_fillInStackTrace_0 : decode prog_13_method_18_code 0 = .ok (.aload_n 0, 1) := by decide +kernel
theorem dThr_fillInStackTrace_1 : decode prog_13_method_18_code 1 = .ok (.getfield 17, 3) := by decide +kernel
theorem dThr_fillInStackTrace_4 : decode prog_13_method_18_code 4 = .ok (.ifnonnull 10, 3) := by decide +kernel
theorem dThr_fillInStackTrace_7 : decode prog_13_method_18_code 7 = .ok (.aload_n 0, 1) := by decide +kernel
theorem dThr_fillInStackTrace_8 : decode prog_13_method_18_code 8 = .ok (.getfield 198, 3) := by decide +kernel
theorem dThr_fillInStackTrace_11 : decode prog_13_method_18_code 11 = .ok (.ifnull 16, 3) := by decide +kernel
theorem dThr_fillInStackTrace_14 : decode prog_13_method_18_code 14 = .ok (.aload_n 0, 1) := by decide +kernel
theorem dThr_fillInStackTrace_15 : decode prog_13_method_18_code 15 = .ok (.iconst 0, 1) := by decide +kernel
theorem dThr_fillInStackTrace_16 : decode prog_13_method_18_code 16 = .ok (.invokevirtual 202, 3) := by decide +kernel
theorem dThr_fillInStackTrace_19 : decode prog_13_method_18_code 19 = .ok (.pop, 1) := by decide +kernel
theorem dThr_fillInStackTrace_20 : decode prog_13_method_18_code 20 = .ok (.aload_n 0, 1) := by decide +kernel
theorem dThr_fillInStackTrace_21 : decode prog_13_method_18_code 21 = .ok (.getstatic 13, 3) := by decide +kernel
theorem dThr_fillInStackTrace_24 : decode prog_13_method_18_code 24 = .ok (.putfield 17, 3) := by decide +kernel
theorem dThr_fillInStackTrace_27 : decode prog_13_method_18_code 27 = .ok (.aload_n 0, 1) := by decide +kernel
theorem dThr_fillInStackTrace_28 : decode prog_13_method_18_code 28 = .ok (.areturn, 1) := by decide +kernel
theorem dIse_init_0 : decode prog_7_method_2_code 0 = .ok (.aload_n 0, 1) := by decide +kernel
theorem dIse_init_1 : decode prog_7_method_2_code 1 = .ok (.aload_n 1, 1) := by decide +kernel
theorem dIse_init_2 : decode prog_7_method_2_code 2 = .ok (.invokespecial 7, 3) := by decide +kernel
theorem dIse_init_5 : decode prog_7_method_2_code 5 = .ok (.return_, 1) := by decide +kernel
theorem dRte_init_0 : decode prog_9_method_2_code 0 = .ok (.aload_n 0, 1) := by decide +kernel
theorem dRte_init_1 : decode prog_9_method_2_code 1 = .ok (.aload_n 1, 1) := by decide +kernel
theorem dRte_init_2 : decode prog_9_method_2_code 2 = .ok (.invokespecial 7, 3) := by decide +kernel
theorem dRte_init_5 : decode prog_9_method_2_code 5 = .ok (.return_, 1) := by decide +kernel
theorem dExc_init_0 : decode prog_5_method_2_code 0 = .ok (.aload_n 0, 1) := by decide +kernel
theorem dExc_init_1 : decode prog_5_method_2_code 1 = .ok (.aload_n 1, 1) := by decide +kernel
theorem dExc_init_2 : decode prog_5_method_2_code 2 = .ok (.invokespecial 7, 3) := by decide +kernel
theorem dExc_init_5 : decode prog_5_method_2_code 5 = .ok (.return_, 1) := by decide +kernel
theorem dThr_initS_0 : decode prog_13_method_2_code 0 = .ok (.aload_n 0, 1) := by decide +kernel
theorem dThr_initS_1 : decode prog_13_method_2_code 1 = .ok (.invokespecial 1, 3) := by decide +kernel
theorem dThr_initS_4 : decode prog_13_method_2_code 4 = .ok (.aload_n 0, 1) := by decide +kernel
theorem dThr_initS_5 : decode prog_13_method_2_code 5 = .ok (.aload_n 0, 1) := by decide +kernel
theorem dThr_initS_6 : decode prog_13_method_2_code 6 = .ok (.putfield 7, 3) := by decide +kernel
theorem dThr_initS_9 : decode prog_13_method_2_code 9 = .ok (.aload_n 0, 1) := by decide +kernel
theorem dThr_initS_10 : decode prog_13_method_2_code 10 = .ok (.getstatic 13, 3) := by decide +kernel
theorem dThr_initS_13 : decode prog_13_method_2_code 13 = .ok (.putfield 17, 3) := by decide +kernel
theorem dThr_initS_16 : decode prog_13_method_2_code 16 = .ok (.aload_n 0, 1) := by decide +kernel
theorem dThr_initS_17 : decode prog_13_method_2_code 17 = .ok (.getstatic 20, 3) := by decide +kernel
theorem dThr_initS_20 : decode prog_13_method_2_code 20 = .ok (.putfield 24, 3) := by decide +kernel
theorem dThr_initS_23 : decode prog_13_method_2_code 23 = .ok (.aload_n 0, 1) := by decide +kernel
theorem dThr_initS_24 : decode prog_13_method_2_code 24 = .ok (.invokevirtual 27, 3) := by decide +kernel
theorem dThr_initS_27 : decode prog_13_method_2_code 27 = .ok (.pop, 1) := by decide +kernel
theorem dThr_initS_28 : decode prog_13_method_2_code 28 = .ok (.aload_n 0, 1) := by decide +kernel
theorem dThr_initS_29 : decode prog_13_method_2_code 29 = .ok (.aload_n 1, 1) := by decide +kernel
theorem dThr_initS_30 : decode prog_13_method_2_code 30 = .ok (.putfield 31, 3) := by decide +kernel
theorem dThr_initS_33 : decode prog_13_method_2_code 33 = .ok (.return_, 1) := by decide +kernel
theorem dIae_init_0 : decode prog_6_method_2_code 0 = .ok (.aload_n 0, 1) := by decide +kernel
theorem dIae_init_1 : decode prog_6_method_2_code 1 = .ok (.aload_n 1, 1) := by decide +kernel
theorem dIae_init_2 : decode prog_6_method_2_code 2 = .ok (.invokespecial 7, 3) := by decide +kernel
theorem dIae_init_5 : decode prog_6_method_2_code 5 = .ok (.return_, 1) := by decide +kernel
